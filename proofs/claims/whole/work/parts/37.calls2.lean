/-- one minute more -/
noncomputable def cPass (c : Ch) (n d u k : Nat) : Ch := if u = 12 then cMin (c11 c) n d 11 k else cMin c n d u k
abbrev uNx (u : Nat) : Nat := if u = 12 then 12 else u + 1
theorem cMin_ok {c : Ch} {n d p u k : Nat} (hc : COk c n d p u k) (hu : u < 12) : COk (cMin c n d u k) n d p (u + 1) k := by
  exact ⟨hc.1, ⟨hc.2.1.1, hc.2.1.2.1, ⟨hc.2.1.2.2.1, hc.2.1.2.2.2⟩⟩, ⟨hc.2.2.1.1, hc.2.2.1.2⟩, rfl, by omega⟩
theorem c11_ok {c : Ch} {n d p u k : Nat} (hc : COk c n d p u k) : COk (c11 c) n d p 11 k := by
  exact ⟨hc.1, ⟨hc.2.1.1, hc.2.1.2.1, ⟨hc.2.1.2.2.1, hc.2.1.2.2.2⟩⟩, ⟨hc.2.2.1.1, hc.2.2.1.2⟩, rfl, by omega⟩
theorem cPass_ok {c : Ch} {n d p u k : Nat} (hc : COk c n d p u k) : COk (cPass c n d u k) n d p (uNx u) k := by
  unfold cPass uNx
  have hu := hc.2.2.2.2
  split
  · exact cMin_ok (c11_ok hc) (by omega)
  · exact cMin_ok hc (by omega)
noncomputable def cPassN (n d k : Nat) : Nat → Ch → Nat → Ch
  | 0, c, _ => c
  | z + 1, c, u => cPassN n d k z (cPass c n d u k) (uNx u)
section Calls2
variable {C : Nat → Ch} {F : Nat → Nat → Int32} {n d p u k l : Nat} {x y z t : Int32} {Q : Int32 → Wd → Prop}
theorem H_minute (hc : COk (C 0) n d p u k) (hb : ¬ (1 ≤ x ∧ x ≤ 20) → Q (-2) (hW C (badF F))) (ok : ∀ m, 1 ≤ m → m ≤ 20 → x = nI m → Q ((cPassN n d k m (C 0) u).1 1) (hW (va_up C 0 (cPassN n d k m (C 0) u)) F)) : CallI kX10_minute [.ref 16, .int x] (hW C F) Q := by
  refine e_X10_minute ?_
  refine iX10_minute_0 (iX10_minute_1 (iX10_minute_2 ?_))
  refine iX10_minute_4 (Nat.le_of_ble_eq_true rfl) (S_within (fun a b => ?_) (fun a => ?_))
  · have hx0 : ¬ x < 0 := i32_len (Int32.le_trans (by decide) a)
    obtain ⟨m, hm, e⟩ := nI_of2 (M := 20) (n := 20) (by decide) hx0 b
    have h1 : 1 ≤ m := (nI_leI (a := 1) (by omega) (by omega)).mp (by rw [← e]; exact a)
    have fin := ok m h1 hm e
    subst e
    refine iX10_minute_7 (fun _ => (iX10_minute_17 (iX10_minute_18 rfl ?_))) (fun h => False.elim (by revert h; decide))
    have key : ∀ j, j ≤ m → ∀ c v, COk c n d p v k → cPassN n d k (m - j) c v = cPassN n d k m (C 0) u → V kX10_minute 19 [some (.ref 16), some (.int (nI m)), some (.int (nI j))] [] (hW (va_up C 0 c) F) 0 0 (qI Q) := by
      refine dn m ?_
      intro j hj ih c v hcc he
      refine iX10_minute_19 (iX10_minute_20 ?_)
      refine iX10_minute_21 (fun g => ?_) (fun g => ?_)
      · have e := eq_of hj (by omega) g
        subst e
        rw [Nat.sub_self] at he
        have he : c = cPassN n d k j (C 0) u := he
        rw [← he] at fin
        refine iX10_minute_37 (iX10_minute_38 rfl rfl (iX10_minute_41 rfl rfl ?_))
        exact iX10_minute_44 fin
      · have hlt := nlt_of (by omega) g
        have e1 : nI j + 1 = nI (j + 1) := nI_1 j
        refine iX10_minute_24 (iX10_minute_25 rfl rfl ?_)
        refine iX10_minute_28F plMC (chW c) [.ref 16] (pt_plMC (va_up C 0 c) F) (by decide) rfl rfl (Nat.le_of_ble_eq_true rfl) (S_passMinute hcc.2.1.1.1 hcc.2.1.1.2 hcc.2.1.2.1.1 hcc.2.1.2.1.2 hcc.2.2.2.1 hcc.2.2.2.2 hcc.2.1.2.2.1 hcc.2.1.2.2.2 ?_)
        change V kX10_minute 31 _ _ (wr (rn plMC 92) _ plMC _) 0 0 _
        rw [wr_plMC]
        have ew : va_up (va_up C 0 c) 0 (cPass c n d v k) = va_up C 0 (cPass c n d v k) := by
          funext i
          unfold va_up
          by_cases hi : i = 0
          · rw [if_pos hi, if_pos hi]
          · rw [if_neg hi, if_neg hi, if_neg hi]
        change V kX10_minute 31 _ _ (hW (va_up (va_up C 0 c) 0 (cPass c n d v k)) F) 0 0 _
        rw [ew]
        refine iX10_minute_31 rfl (iX10_minute_34 ?_)
        rw [e1]
        refine ih hlt (cPass c n d v k) (uNx v) (cPass_ok hcc) ?_
        rw [← he, show m - j = (m - (j + 1)) + 1 by omega]
        rfl
    have := key 0 (Nat.zero_le _) (C 0) u hc rfl
    rw [va_upC] at this
    exact this
  · refine iX10_minute_7 (fun h => False.elim (by revert h; decide)) (fun _ => (iX10_minute_10 (iX10_minute_11 (iX10_minute_13 rfl (Nat.le_of_ble_eq_true rfl) (S_counted ?_)))))
    exact iX10_minute_16 (hb a)
theorem H_house (hc : COk (C 0) n d p u k) (hb : ¬ (0 ≤ t ∧ t ≤ 299) → Q (-10) (hW C (badF F))) (ok : 0 ≤ t → t ≤ 299 → Q (hs (C 0) k t) (hW C F)) : CallI kX10_house [.ref 16, .int t] (hW C F) Q := by
  refine e_X10_house ?_
  refine iX10_house_0 (iX10_house_1 (Nat.le_of_ble_eq_true rfl) (S_isMinute (fun a b => ?_) (fun a => ?_)))
  · refine iX10_house_4 (fun h => False.elim (by revert h; decide)) (fun _ => (iX10_house_7 (iX10_house_8 rfl rfl (iX10_house_11 rfl rfl (iX10_house_14 ?_)))))
    refine iX10_house_15P plMB (bnW ((C 0).1 8) (C 0).2) [.ref 16, .int t] (pt_plMB C F) (by decide) rfl rfl (Nat.le_of_ble_eq_true rfl) (S_strongest hc.2.1.2.2.2 hc.2.1.2.2.1 ⟨rfl, ?_⟩)
    refine iX10_house_18 ?_
    exact iX10_house_25 (ok a b)
  · refine iX10_house_4 (fun _ => (iX10_house_21 (iX10_house_22 rfl (Nat.le_of_ble_eq_true rfl) (S_badAsTen ?_)))) (fun h => False.elim (by revert h; decide))
    exact iX10_house_25 (hb a)
theorem H_votes (hc : COk (C 0) n d p u k) (hb : ¬ ((0 ≤ x ∧ x ≤ 2) ∧ (0 ≤ t ∧ t ≤ 299)) → Q (-2) (hW C (badF F))) (ok : 0 ≤ x → x ≤ 2 → 0 ≤ t → t ≤ 299 → Q (l_sum (bVot (C 0).2 x t) k) (hW C F)) : CallI kX10_votes [.ref 16, .int x, .int t] (hW C F) Q := by
  refine e_X10_votes ?_
  have bad : ¬ ((0 ≤ x ∧ x ≤ 2) ∧ (0 ≤ t ∧ t ≤ 299)) → V kX10_votes 14 [some (.ref 16), some (.int x), some (.int t)] [] (hW C F) 0 0 (qI Q) := by
    intro z
    refine iX10_votes_14 (iX10_votes_15 (iX10_votes_17 rfl (Nat.le_of_ble_eq_true rfl) (S_counted ?_)))
    exact iX10_votes_20 (hb z)
  refine iX10_votes_0 (iX10_votes_1 (Nat.le_of_ble_eq_true rfl) (S_isParty (fun a b => ?_) (fun a => ?_)))
  · refine iX10_votes_4 (fun h => False.elim (by revert h; decide)) (fun _ => iX10_votes_7 (iX10_votes_8 (Nat.le_of_ble_eq_true rfl) (S_isMinute (fun a2 b2 => ?_) (fun a2 => ?_))))
    · refine iX10_votes_11 (fun _ => (iX10_votes_21 (iX10_votes_22 rfl rfl (iX10_votes_25 rfl rfl (iX10_votes_28 (iX10_votes_29 ?_)))))) (fun h => False.elim (by revert h; decide))
      refine iX10_votes_30P plMB (bnW ((C 0).1 8) (C 0).2) [.ref 16, .int x, .int t] (pt_plMB C F) (by decide) rfl rfl (Nat.le_of_ble_eq_true rfl) (S_bvotesOf hc.2.1.2.2.2 hc.2.1.2.2.1 ⟨rfl, ?_⟩)
      exact iX10_votes_33 (ok a b a2 b2)
    · refine iX10_votes_11 (fun h => False.elim (by revert h; decide)) (fun _ => ?_)
      exact bad (fun z => a2 z.2)
  · refine iX10_votes_4 (fun _ => ?_) (fun h => False.elim (by revert h; decide))
    exact bad (fun z => a z.1)
theorem H_burns (hc : COk (C 0) n d p u k) (hb : ¬ (0 ≤ t ∧ t ≤ 299) → Q (-2) (hW C (badF F))) (ok : 0 ≤ t → t ≤ 299 → Q (cFl (C 0) d k t) (hW C F)) : CallI kX10_burns [.ref 16, .int t] (hW C F) Q := by
  refine e_X10_burns ?_
  refine iX10_burns_0 (iX10_burns_1 (Nat.le_of_ble_eq_true rfl) (S_isMinute (fun a b => ?_) (fun a => ?_)))
  · refine iX10_burns_4 (fun h => False.elim (by revert h; decide)) (fun _ => (iX10_burns_7 (iX10_burns_8 rfl rfl (iX10_burns_11 ?_))))
    refine iX10_burns_12P plMC (chW (C 0)) [.ref 16, .int t] (pt_plMC C F) (by decide) rfl rfl (Nat.le_of_ble_eq_true rfl) (S_flame hc.2.1.2.1.1 hc.2.1.2.1.2 hc.2.1.2.2.1 hc.2.1.2.2.2 ⟨rfl, ?_⟩)
    refine iX10_burns_15 ?_
    exact iX10_burns_24 (ok a b)
  · refine iX10_burns_4 (fun _ => (iX10_burns_18 (iX10_burns_19 (iX10_burns_21 rfl (Nat.le_of_ble_eq_true rfl) (S_counted ?_))))) (fun h => False.elim (by revert h; decide))
    exact iX10_burns_24 (hb a)
theorem H_fallen (hc : COk (C 0) n d p u k) (hb : ¬ (0 ≤ x ∧ x ≤ nI p - 1) → Q (-2) (hW C (badF F))) (ok : ∀ i, i < p → x = nI i → Q (if past (C 0) (slo (C 0) i) then 1 else 0) (hW C F)) : CallI kX10_fallen [.ref 16, .int x] (hW C F) Q := by
  refine e_X10_fallen ?_
  have hp9 := hc.2.2.1.1.2
  refine iX10_fallen_0 (iX10_fallen_1 rfl rfl (iX10_fallen_4 ?_))
  refine iX10_fallen_5P plMC (chW (C 0)) [.ref 16, .int x] (pt_plMC C F) (by decide) rfl rfl (Nat.le_of_ble_eq_true rfl) (S_hasPin hc.2.2.1.1.1 hc.2.2.1.1.2 (fun i hi e => ⟨rfl, ?_⟩) (fun a => ⟨rfl, ?_⟩))
  · subst e
    obtain ⟨hs1, he⟩ := hc.2.2.1.at hc.2.1.1.2 hi
    have ok := ok i hi rfl
    refine iX10_fallen_8 (fun _ => (iX10_fallen_18 (iX10_fallen_19 rfl rfl (iX10_fallen_22 ?_)))) (fun h => False.elim (by revert h; decide))
    refine iX10_fallen_23P plMC (chW (C 0)) [.ref 16, .int (nI i)] (pt_plMC C F) (by decide) rfl rfl (Nat.le_of_ble_eq_true rfl) (S_isPinDown hc.2.1.1.1 hc.2.1.1.2 (by omega) (Nat.le_of_lt hs1) he (fun q => ⟨rfl, ?_⟩) (fun q => ⟨rfl, ?_⟩))
    · rw [if_pos q] at ok
      refine iX10_fallen_26 (fun h => False.elim (by revert h; decide)) (fun _ => (iX10_fallen_29 (iX10_fallen_30 ?_)))
      exact iX10_fallen_34 ok
    · rw [if_neg q] at ok
      refine iX10_fallen_26 (fun _ => (iX10_fallen_33 ?_)) (fun h => False.elim (by revert h; decide))
      exact iX10_fallen_34 ok
  · refine iX10_fallen_8 (fun h => False.elim (by revert h; decide)) (fun _ => (iX10_fallen_11 (iX10_fallen_12 (iX10_fallen_14 rfl (Nat.le_of_ble_eq_true rfl) (S_counted ?_)))))
    exact iX10_fallen_17 (hb a)
theorem H_falls (hc : COk (C 0) n d p u k) (hb : ¬ (0 ≤ x ∧ x ≤ nI p - 1) → Q (-10) (hW C (badF F))) (ok : ∀ i, i < p → x = nI i → ∀ G, FEq F G → Q (fall (C 0) n d k ((C 0).1 5) (slo (C 0) i)) (hW C G)) : CallI kX10_falls [.ref 16, .int x] (hW C F) Q := by
  refine e_X10_falls ?_
  have hp9 := hc.2.2.1.1.2
  refine iX10_falls_0 (iX10_falls_1 rfl rfl (iX10_falls_4 ?_))
  refine iX10_falls_5P plMC (chW (C 0)) [.ref 16, .int x] (pt_plMC C F) (by decide) rfl rfl (Nat.le_of_ble_eq_true rfl) (S_hasPin hc.2.2.1.1.1 hc.2.2.1.1.2 (fun i hi e => ⟨rfl, ?_⟩) (fun a => ⟨rfl, ?_⟩))
  · subst e
    obtain ⟨hs1, he⟩ := hc.2.2.1.at hc.2.1.1.2 hi
    have ok := ok i hi rfl
    refine iX10_falls_8 (fun h => False.elim (by revert h; decide)) (fun _ => (iX10_falls_11 (iX10_falls_12 rfl rfl (iX10_falls_15 ?_))))
    refine iX10_falls_16F plMO (olW (F 4) (F 5) (F 6) (F 7) (C 0)) [.ref 16, .int (nI i)] (pt_plMO C F) (by decide) rfl rfl (Nat.le_of_ble_eq_true rfl) (S_fallMinute hc.2.1 (by omega) hs1 he (fun br bh => ?_))
    change V kX10_falls 19 _ _ (wr (rn plMO 92) _ plMO _) 0 0 _
    rw [wr_plMO, va_upC]
    refine iX10_falls_19 ?_
    exact iX10_falls_26 (ok _ (FEq.of F _ _ _ _))
  · refine iX10_falls_8 (fun _ => (iX10_falls_22 (iX10_falls_23 rfl (Nat.le_of_ble_eq_true rfl) (S_badAsTen ?_)))) (fun h => False.elim (by revert h; decide))
    exact iX10_falls_26 (hb a)
theorem H_whose (hc : COk (C 0) n d p u k) (hb : ¬ (0 ≤ x ∧ x ≤ nI p - 1) → Q (-10) (hW C (badF F))) (ok : ∀ i, i < p → x = nI i → ∀ G, FEq F G → Q ((if fall (C 0) n d k ((C 0).1 5) (slo (C 0) i) = -1 then -1 else hs (C 0) k (fall (C 0) n d k ((C 0).1 5) (slo (C 0) i)))) (hW C G)) : CallI kX10_whose [.ref 16, .int x] (hW C F) Q := by
  refine e_X10_whose ?_
  have hp9 := hc.2.2.1.1.2
  refine iX10_whose_0 (iX10_whose_1 rfl rfl (iX10_whose_4 ?_))
  refine iX10_whose_5P plMC (chW (C 0)) [.ref 16, .int x] (pt_plMC C F) (by decide) rfl rfl (Nat.le_of_ble_eq_true rfl) (S_hasPin hc.2.2.1.1.1 hc.2.2.1.1.2 (fun i hi e => ⟨rfl, ?_⟩) (fun a => ⟨rfl, ?_⟩))
  · subst e
    obtain ⟨hs1, he⟩ := hc.2.2.1.at hc.2.1.1.2 hi
    have ok := ok i hi rfl
    refine iX10_whose_8 (fun h => False.elim (by revert h; decide)) (fun _ => (iX10_whose_11 (iX10_whose_12 rfl rfl (iX10_whose_15 ?_))))
    refine iX10_whose_16F plMO (olW (F 4) (F 5) (F 6) (F 7) (C 0)) [.ref 16, .int (nI i)] (pt_plMO C F) (by decide) rfl rfl (Nat.le_of_ble_eq_true rfl) (S_houseAtFall hc.2.1 (by omega) hs1 he (fun br bh => ?_))
    change V kX10_whose 19 _ _ (wr (rn plMO 92) _ plMO _) 0 0 _
    rw [wr_plMO, va_upC]
    refine iX10_whose_19 ?_
    exact iX10_whose_26 (ok _ (FEq.of F _ _ _ _))
  · refine iX10_whose_8 (fun _ => (iX10_whose_22 (iX10_whose_23 rfl (Nat.le_of_ble_eq_true rfl) (S_badAsTen ?_)))) (fun h => False.elim (by revert h; decide))
    exact iX10_whose_26 (hb a)
theorem H_out (hc : COk (C 0) n d p u k) (ok : ∀ G, FEq F G → Q (outM (C 0) n d k) (hW C G)) : CallI kX10_out [.ref 16] (hW C F) Q := by
  refine e_X10_out ?_
  refine iX10_out_0 (iX10_out_1 rfl rfl ?_)
  refine iX10_out_4F plMO (olW (F 4) (F 5) (F 6) (F 7) (C 0)) [.ref 16] (pt_plMO C F) (by decide) rfl rfl (Nat.le_of_ble_eq_true rfl) (S_outMinute hc.2.1 (fun br bh => ?_))
  change V kX10_out 7 _ _ (wr (rn plMO 92) _ plMO _) 0 0 _
  rw [wr_plMO, va_upC]
  exact iX10_out_7 (ok _ (FEq.of F _ _ _ _))
end Calls2
