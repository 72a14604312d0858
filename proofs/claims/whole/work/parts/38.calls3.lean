theorem rsS_congr {g1 g2 h1 h2 : Nat → Int32} (e1 : ∀ i, i < 4 → g1 i = h1 i) (e2 : ∀ i, i < 4 → g2 i = h2 i) : rsS g1 g2 4 = rsS h1 h2 4 := by
  simp only [rsS, rst]
  rw [e1 0 (by decide), e1 1 (by decide), e1 2 (by decide), e1 3 (by decide), e2 0 (by decide), e2 1 (by decide), e2 2 (by decide), e2 3 (by decide), e1 (0 ^^^ 2) (by decide), e1 (1 ^^^ 2) (by decide), e1 (2 ^^^ 2) (by decide), e1 (3 ^^^ 2) (by decide), e2 (0 ^^^ 1) (by decide), e2 (1 ^^^ 1) (by decide), e2 (2 ^^^ 1) (by decide), e2 (3 ^^^ 1) (by decide)]
noncomputable def gameS (c : Ch) (n d k p : Nat) (x a y b : Int32) : Int32 × Int32 := rsS (fun i => gn c n d k p (prW (c.1 5) a b i) x) (fun i => gn c n d k p (prW (c.1 5) a b i) y) 4
noncomputable def numO (c : Ch) (F : Nat → Nat → Int32) (n : Nat) : Nat → Int32
  | 0 => c.1 0
  | 1 => c.1 1
  | 2 => l_sum (c.2 0) n
  | 3 => c.1 3
  | 4 => c.1 4
  | 5 => c.1 6
  | 6 => c.1 8
  | 7 => c.1 2
  | 8 => c.1 7
  | _ => F 1 0
noncomputable def dgN (c : Ch) (F : Nat → Nat → Int32) (n : Nat) : Nat → Int64
  | 0 => 877
  | i + 1 => 31 * dgN c F n i + (numO c F n i).toInt64
noncomputable def loanR (c : Ch) (n : Nat) (x : Int32) : Int32 := if x = 0 then nI (owL (c.2 0) (c.1 2) n 0) else c.1 2 - l_sum (c.2 0) (owL (c.2 0) (c.1 2) n 0)
section Calls3
variable {C : Nat → Ch} {F : Nat → Nat → Int32} {n d p u k l : Nat} {x y z t : Int32} {Q : Int32 → Wd → Prop}
theorem H_reads (hc : COk (C 0) n d p u k) (hb : ¬ ((1 ≤ x ∧ x ≤ 9999) ∧ (1 ≤ y ∧ y ≤ 99) ∧ (0 ≤ z ∧ z ≤ nI p - 1)) → Q (-10) (hW C (badF F))) (ok : 1 ≤ x → x ≤ 9999 → 1 ≤ y → y ≤ 99 → ∀ i, i < p → z = nI i → ∀ G, FEq F G → Q (wordsF (C 0) n d k (slo (C 0) i) x y) (hW C G)) : CallI kX10_reads [.ref 16, .int x, .int y, .int z] (hW C F) Q := by
  refine e_X10_reads ?_
  have hp9 := hc.2.2.1.1.2
  have bad : ¬ ((1 ≤ x ∧ x ≤ 9999) ∧ (1 ≤ y ∧ y ≤ 99) ∧ (0 ≤ z ∧ z ≤ nI p - 1)) → V kX10_reads 32 [some (.ref 16), some (.int x), some (.int y), some (.int z)] [] (hW C F) 0 0 (qI Q) := by
    intro q
    refine iX10_reads_32 (iX10_reads_33 rfl (Nat.le_of_ble_eq_true rfl) (S_badAsTen ?_))
    exact iX10_reads_36 (hb q)
  refine iX10_reads_0 (iX10_reads_1 (iX10_reads_2 ?_))
  refine iX10_reads_5 (Nat.le_of_ble_eq_true rfl) (S_within (fun a b => ?_) (fun a => ?_))
  · refine iX10_reads_8 (fun h => False.elim (by revert h; decide)) (fun _ => (iX10_reads_11 (iX10_reads_12 (iX10_reads_13 ?_))))
    refine iX10_reads_15 (Nat.le_of_ble_eq_true rfl) (S_within (fun a2 b2 => ?_) (fun a2 => ?_))
    · refine iX10_reads_18 (fun h => False.elim (by revert h; decide)) (fun _ => (iX10_reads_21 (iX10_reads_22 rfl rfl (iX10_reads_25 ?_))))
      refine iX10_reads_26P plMC (chW (C 0)) [.ref 16, .int z] (pt_plMC C F) (by decide) rfl rfl (Nat.le_of_ble_eq_true rfl) (S_hasPin hc.2.2.1.1.1 hc.2.2.1.1.2 (fun i hi e => ⟨rfl, ?_⟩) (fun a3 => ⟨rfl, ?_⟩))
      · subst e
        obtain ⟨hs1, he⟩ := hc.2.2.1.at hc.2.1.1.2 hi
        have ok := ok a b a2 b2 i hi rfl
        refine iX10_reads_29 (fun _ => (iX10_reads_37 (iX10_reads_38 rfl rfl (iX10_reads_41 (iX10_reads_42 (iX10_reads_43 ?_)))))) (fun h => False.elim (by revert h; decide))
        refine iX10_reads_44F plMO (olW (F 4) (F 5) (F 6) (F 7) (C 0)) [.ref 16, .int x, .int y, .int (nI i)] (pt_plMO C F) (by decide) rfl rfl (Nat.le_of_ble_eq_true rfl) (S_wordsRead hc.2.1 (by omega) hs1 he (fun br bh => ?_))
        change V kX10_reads 47 _ _ (wr (rn plMO 92) _ plMO _) 0 0 _
        rw [wr_plMO, va_upC]
        exact iX10_reads_47 (ok _ (FEq.of F _ _ _ _))
      · refine iX10_reads_29 (fun h => False.elim (by revert h; decide)) (fun _ => ?_)
        exact bad (fun q => a3 q.2.2)
    · refine iX10_reads_18 (fun _ => ?_) (fun h => False.elim (by revert h; decide))
      exact bad (fun q => a2 q.2.1)
  · refine iX10_reads_8 (fun _ => ?_) (fun h => False.elim (by revert h; decide))
    exact bad (fun q => a q.1)
theorem H_set (hc : COk (C 0) n d p u k) (hb : ¬ ((0 ≤ x ∧ x ≤ 2) ∧ (1 ≤ y ∧ y ≤ 2) ∧ (0 ≤ z ∧ z ≤ 2)) → Q (-10) (hW C (badF F))) (ok : (0 ≤ x ∧ x ≤ 2) → (1 ≤ y ∧ y ≤ 2) → (0 ≤ z ∧ z ≤ 2) → ∀ G, FEq F G → Q (bpR (C 0) n d k x y z) (hW C G)) : CallI kX10_set [.ref 16, .int x, .int y, .int z] (hW C F) Q := by
  refine e_X10_set ?_
  have bad : ¬ ((0 ≤ x ∧ x ≤ 2) ∧ (1 ≤ y ∧ y ≤ 2) ∧ (0 ≤ z ∧ z ≤ 2)) → V kX10_set 25 [some (.ref 16), some (.int x), some (.int y), some (.int z)] [] (hW C F) 0 0 (qI Q) := by
    intro q
    refine iX10_set_25 (iX10_set_26 rfl (Nat.le_of_ble_eq_true rfl) (S_badAsTen ?_))
    exact iX10_set_29 (hb q)
  refine iX10_set_0 ?_
  refine iX10_set_1 (Nat.le_of_ble_eq_true rfl) (S_isParty (fun a b => ?_) (fun a => ?_))
  · refine iX10_set_4 (fun h => False.elim (by revert h; decide)) (fun _ => (iX10_set_7 (iX10_set_8 (iX10_set_9 ?_))))
    refine iX10_set_10 (Nat.le_of_ble_eq_true rfl) (S_within (fun a2 b2 => ?_) (fun a2 => ?_))
    · refine iX10_set_13 (fun h => False.elim (by revert h; decide)) (fun _ => (iX10_set_16 (iX10_set_17 (iX10_set_18 ?_))))
      refine iX10_set_19 (Nat.le_of_ble_eq_true rfl) (S_within (fun a3 b3 => ?_) (fun a3 => ?_))
      · have ok := ok ⟨a, b⟩ ⟨a2, b2⟩ ⟨a3, b3⟩
        refine iX10_set_22 (fun _ => (iX10_set_30 (iX10_set_31 rfl rfl (iX10_set_34 (iX10_set_35 (iX10_set_36 ?_)))))) (fun h => False.elim (by revert h; decide))
        refine iX10_set_37F plMO (olW (F 4) (F 5) (F 6) (F 7) (C 0)) [.ref 16, .int x, .int y, .int z] (pt_plMO C F) (by decide) rfl rfl (Nat.le_of_ble_eq_true rfl) (S_bestPins hc.2.1 (fun br bh => ?_))
        change V kX10_set 40 _ _ (wr (rn plMO 92) _ plMO _) 0 0 _
        rw [wr_plMO, va_upC]
        exact iX10_set_40 (ok _ (FEq.of F _ _ _ _))
      · refine iX10_set_22 (fun h => False.elim (by revert h; decide)) (fun _ => ?_)
        exact bad (fun q => a3 q.2.2)
    · refine iX10_set_13 (fun _ => ?_) (fun h => False.elim (by revert h; decide))
      exact bad (fun q => a2 q.2.1)
  · refine iX10_set_4 (fun _ => ?_) (fun h => False.elim (by revert h; decide))
    exact bad (fun q => a q.1)
theorem H_shut (hc : COk (C 0) n d p u k) (hb : ¬ (∃ i, i < p ∧ x = nI i ∧ (0 ≤ t ∧ t ≤ 299) ∧ ¬ past (C 0) (slo (C 0) i)) → Q (-10) (hW C (badF F))) (ok : ∀ i, i < p → x = nI i → (0 ≤ t ∧ t ≤ 299) → ¬ past (C 0) (slo (C 0) i) → ∀ G, FEq F G → Q (shS (C 0) n d k (slo (C 0) i) t (2 ^ d)) (hW C G)) : CallI kX10_shut [.ref 16, .int x, .int t] (hW C F) Q := by
  refine e_X10_shut ?_
  have hp9 := hc.2.2.1.1.2
  have bad : ¬ (∃ i, i < p ∧ x = nI i ∧ (0 ≤ t ∧ t ≤ 299) ∧ ¬ past (C 0) (slo (C 0) i)) → V kX10_shut 29 [some (.ref 16), some (.int x), some (.int t)] [] (hW C F) 0 0 (qI Q) := by
    intro q
    refine iX10_shut_29 (iX10_shut_30 rfl (Nat.le_of_ble_eq_true rfl) (S_badAsTen ?_))
    exact iX10_shut_33 (hb q)
  refine iX10_shut_0 (iX10_shut_1 rfl rfl (iX10_shut_4 ?_))
  refine iX10_shut_5P plMC (chW (C 0)) [.ref 16, .int x] (pt_plMC C F) (by decide) rfl rfl (Nat.le_of_ble_eq_true rfl) (S_hasPin hc.2.2.1.1.1 hc.2.2.1.1.2 (fun i hi e => ⟨rfl, ?_⟩) (fun a => ⟨rfl, ?_⟩))
  · subst e
    have inj : ∀ i', i' < p → nI i = nI i' → i' = i := fun i' hi' e => ((nI_eq (by omega) (by omega)).mp e).symm
    obtain ⟨hs1, he⟩ := hc.2.2.1.at hc.2.1.1.2 hi
    refine iX10_shut_8 (fun h => False.elim (by revert h; decide)) (fun _ => (iX10_shut_11 ?_))
    refine iX10_shut_12 (Nat.le_of_ble_eq_true rfl) (S_isMinute (fun a2 b2 => ?_) (fun a2 => ?_))
    · refine iX10_shut_15 (fun h => False.elim (by revert h; decide)) (fun _ => (iX10_shut_18 (iX10_shut_19 rfl rfl (iX10_shut_22 ?_))))
      refine iX10_shut_23P plMC (chW (C 0)) [.ref 16, .int (nI i)] (pt_plMC C F) (by decide) rfl rfl (Nat.le_of_ble_eq_true rfl) (S_isPinDown hc.2.1.1.1 hc.2.1.1.2 (by omega) (Nat.le_of_lt hs1) he (fun q => ⟨rfl, ?_⟩) (fun q => ⟨rfl, ?_⟩))
      · refine iX10_shut_26 (fun h => False.elim (by revert h; decide)) (fun _ => ?_)
        exact bad (fun ⟨i', hi', e, _, g⟩ => by rw [inj i' hi' e] at g; exact g q)
      · have ok := ok i hi rfl ⟨a2, b2⟩ q
        refine iX10_shut_26 (fun _ => (iX10_shut_34 (iX10_shut_35 rfl rfl (iX10_shut_38 (iX10_shut_39 ?_))))) (fun h => False.elim (by revert h; decide))
        refine iX10_shut_40F plMO (olW (F 4) (F 5) (F 6) (F 7) (C 0)) [.ref 16, .int (nI i), .int t] (pt_plMO C F) (by decide) rfl rfl (Nat.le_of_ble_eq_true rfl) (S_fewestToShut hc.2.1 (by omega) hs1 he (fun br bh => ?_))
        change V kX10_shut 43 _ _ (wr (rn plMO 92) _ plMO _) 0 0 _
        rw [wr_plMO, va_upC]
        exact iX10_shut_43 (ok _ (FEq.of F _ _ _ _))
    · refine iX10_shut_15 (fun _ => ?_) (fun h => False.elim (by revert h; decide))
      exact bad (fun ⟨i', hi', e, g, _⟩ => a2 g)
  · refine iX10_shut_8 (fun _ => ?_) (fun h => False.elim (by revert h; decide))
    refine bad (fun ⟨i', hi', e, _, _⟩ => a ?_)
    subst e
    obtain ⟨q, hq⟩ : ∃ q, p = q + 1 := ⟨p - 1, by omega⟩
    rw [hq, nI_pred]
    exact ⟨nI_pos' (by omega), nI_le (by omega) (by omega)⟩
theorem H_lean (hc : COk (C 0) n d p u k) (hb : ¬ ((0 ≤ x ∧ x ≤ nI p - 1) ∧ (y = -1 ∨ (0 ≤ y ∧ y ≤ 299))) → Q (-10) (hW C (badF F))) (ok : ∀ i, i < p → x = nI i → (y = -1 ∨ (0 ≤ y ∧ y ≤ 299)) → Q ((C 0).2 4 i) (hW (va_up C 0 ((C 0).1, va_up (C 0).2 4 (upd ((C 0).2 4) i y))) F)) : CallI kX10_lean [.ref 16, .int x, .int y] (hW C F) Q := by
  refine e_X10_lean ?_
  have hp9 := hc.2.2.1.1.2
  have bad : ¬ ((0 ≤ x ∧ x ≤ nI p - 1) ∧ (y = -1 ∨ (0 ≤ y ∧ y ≤ 299))) → V kX10_lean 23 [some (.ref 16), some (.int x), some (.int y)] [] (hW C F) 0 0 (qI Q) := by
    intro q
    refine iX10_lean_23 (iX10_lean_24 rfl (Nat.le_of_ble_eq_true rfl) (S_badAsTen ?_))
    exact iX10_lean_27 (hb q)
  refine iX10_lean_0 (iX10_lean_1 rfl rfl (iX10_lean_4 ?_))
  refine iX10_lean_5P plMC (chW (C 0)) [.ref 16, .int x] (pt_plMC C F) (by decide) rfl rfl (Nat.le_of_ble_eq_true rfl) (S_hasPin hc.2.2.1.1.1 hc.2.2.1.1.2 (fun i hi e => ⟨rfl, ?_⟩) (fun a => ⟨rfl, ?_⟩))
  · subst e
    have ok := ok i hi rfl
    have good : (y = -1 ∨ (0 ≤ y ∧ y ≤ 299)) → V kX10_lean 28 [some (.ref 16), some (.int (nI i)), some (.int y)] [] (hW C F) 0 0 (qI Q) := by
      intro q
      refine iX10_lean_28 (iX10_lean_29 rfl rfl (iX10_lean_32 (iX10_lean_33 ?_)))
      refine iX10_lean_34F plMC (chW (C 0)) [.ref 16, .int (nI i), .int y] (pt_plMC C F) (by decide) rfl rfl (Nat.le_of_ble_eq_true rfl) (S_tellFall (by omega) ?_)
      change V kX10_lean 37 _ _ (wr (rn plMC 92) _ plMC _) 0 0 _
      rw [wr_plMC]
      exact iX10_lean_37 (ok q)
    refine iX10_lean_8 (fun h => False.elim (by revert h; decide)) (fun _ => (iX10_lean_11 (iX10_lean_12 ?_)))
    refine iX10_lean_13 (fun g => ?_) (fun g => ?_)
    · exact good (Or.inl g)
    · refine iX10_lean_16 ?_
      refine iX10_lean_17 (Nat.le_of_ble_eq_true rfl) (S_isMinute (fun a2 b2 => ?_) (fun a2 => ?_))
      · refine iX10_lean_20 (fun _ => ?_) (fun h => False.elim (by revert h; decide))
        exact good (Or.inr ⟨a2, b2⟩)
      · refine iX10_lean_20 (fun h => False.elim (by revert h; decide)) (fun _ => ?_)
        exact bad (fun q => q.2.elim g a2)
  · refine iX10_lean_8 (fun _ => ?_) (fun h => False.elim (by revert h; decide))
    exact bad (fun q => a q.1)
theorem H_leaned (hc : COk (C 0) n d p u k) (hb : ¬ (0 ≤ x ∧ x ≤ 1) → Q (-10) (hW C (badF F))) (ok : 0 ≤ x → x ≤ 1 → ∀ G, FEq F G → Q (if x = 0 then (lnS (C 0) n d k p (2 ^ d)).1 else (lnS (C 0) n d k p (2 ^ d)).2) (hW C G)) : CallI kX10_leaned [.ref 16, .int x] (hW C F) Q := by
  refine e_X10_leaned ?_
  refine iX10_leaned_0 (iX10_leaned_1 (iX10_leaned_2 ?_))
  refine iX10_leaned_3 (Nat.le_of_ble_eq_true rfl) (S_within (fun a b => ?_) (fun a => ?_))
  · have ok := ok a b
    refine iX10_leaned_6 (fun h => False.elim (by revert h; decide)) (fun _ => (iX10_leaned_9 (iX10_leaned_10 rfl rfl (iX10_leaned_13 ?_))))
    refine iX10_leaned_14F plMO (olW (F 4) (F 5) (F 6) (F 7) (C 0)) [.ref 16, .int x] (pt_plMO C F) (by decide) rfl rfl (Nat.le_of_ble_eq_true rfl) (S_doorsThatLeaned hc.2.1 hc.2.2.1 (fun br bh => ?_))
    change V kX10_leaned 17 _ _ (wr (rn plMO 92) _ plMO _) 0 0 _
    rw [wr_plMO, va_upC]
    refine iX10_leaned_17 ?_
    exact iX10_leaned_24 (ok _ (FEq.of F _ _ _ _))
  · refine iX10_leaned_6 (fun _ => (iX10_leaned_20 (iX10_leaned_21 rfl (Nat.le_of_ble_eq_true rfl) (S_badAsTen ?_)))) (fun h => False.elim (by revert h; decide))
    exact iX10_leaned_24 (hb a)
theorem H_quorum {w : Nat} (hc : COk (C 0) n d p u k) (hw : (C 0).1 3 = nI w) (hw2 : w < 1000000) (hb : ¬ ((1 ≤ x ∧ x ≤ 30) ∧ (0 ≤ y ∧ y ≤ 60) ∧ (0 ≤ z ∧ z ≤ 1)) → Q (-10) (hW C (badF F))) (ok : (1 ≤ x ∧ x ≤ 30) → (0 ≤ z ∧ z ≤ 1) → ∀ m, m ≤ 60 → y = nI m → Q (if z = 0 then (quS (C 0) k x m).1 else (quS (C 0) k x m).2) (hW C F)) : CallI kX10_quorum [.ref 16, .int x, .int y, .int z] (hW C F) Q := by
  refine e_X10_quorum ?_
  have bad : ¬ ((1 ≤ x ∧ x ≤ 30) ∧ (0 ≤ y ∧ y ≤ 60) ∧ (0 ≤ z ∧ z ≤ 1)) → V kX10_quorum 29 [some (.ref 16), some (.int x), some (.int y), some (.int z)] [] (hW C F) 0 0 (qI Q) := by
    intro q
    refine iX10_quorum_29 (iX10_quorum_30 rfl (Nat.le_of_ble_eq_true rfl) (S_badAsTen ?_))
    exact iX10_quorum_33 (hb q)
  refine iX10_quorum_0 (iX10_quorum_1 (iX10_quorum_2 ?_))
  refine iX10_quorum_4 (Nat.le_of_ble_eq_true rfl) (S_within (fun a b => ?_) (fun a => ?_))
  · refine iX10_quorum_7 (fun h => False.elim (by revert h; decide)) (fun _ => (iX10_quorum_10 (iX10_quorum_11 (iX10_quorum_12 ?_))))
    refine iX10_quorum_14 (Nat.le_of_ble_eq_true rfl) (S_within (fun a2 b2 => ?_) (fun a2 => ?_))
    · refine iX10_quorum_17 (fun h => False.elim (by revert h; decide)) (fun _ => (iX10_quorum_20 (iX10_quorum_21 (iX10_quorum_22 ?_))))
      refine iX10_quorum_23 (Nat.le_of_ble_eq_true rfl) (S_within (fun a3 b3 => ?_) (fun a3 => ?_))
      · obtain ⟨m, hm, e⟩ := nI_of2 (M := 60) (n := 60) (by decide) (i32_len a2) b2
        have fin := ok ⟨a, b⟩ ⟨a3, b3⟩ m hm e
        subst e
        refine iX10_quorum_26 (fun _ => (iX10_quorum_34 (iX10_quorum_35 rfl rfl (iX10_quorum_38 (iX10_quorum_39 (iX10_quorum_40 ?_)))))) (fun h => False.elim (by revert h; decide))
        refine iX10_quorum_41P plMO (olW (F 4) (F 5) (F 6) (F 7) (C 0)) [.ref 16, .int x, .int (nI m), .int z] (pt_plMO C F) (by decide) rfl rfl (Nat.le_of_ble_eq_true rfl) (S_quorum hc.2.1 hw hw2 hm ⟨rfl, ?_⟩)
        exact iX10_quorum_44 fin
      · refine iX10_quorum_26 (fun h => False.elim (by revert h; decide)) (fun _ => ?_)
        exact bad (fun q => a3 q.2.2)
    · refine iX10_quorum_17 (fun _ => ?_) (fun h => False.elim (by revert h; decide))
      exact bad (fun q => a2 q.2.1)
  · refine iX10_quorum_7 (fun _ => ?_) (fun h => False.elim (by revert h; decide))
    exact bad (fun q => a q.1)
theorem H_tallow (hc : COk (C 0) n d p u k) (hb : ¬ ((0 ≤ x ∧ x ≤ nI p - 1) ∧ (0 ≤ y ∧ y ≤ 1)) → Q (-10) (hW C (badF F))) (ok : ∀ i, i < p → x = nI i → (0 ≤ y ∧ y ≤ 1) → ∀ G, FEq F G → Q (tlwR (C 0) n d k (slo (C 0) i) (if y = 1 then 1 else 0)) (hW C G)) : CallI kX10_tallow [.ref 16, .int x, .int y] (hW C F) Q := by
  refine e_X10_tallow ?_
  have hp9 := hc.2.2.1.1.2
  have bad : ¬ ((0 ≤ x ∧ x ≤ nI p - 1) ∧ (0 ≤ y ∧ y ≤ 1)) → V kX10_tallow 20 [some (.ref 16), some (.int x), some (.int y)] [] (hW C F) 0 0 (qI Q) := by
    intro q
    refine iX10_tallow_20 (iX10_tallow_21 rfl (Nat.le_of_ble_eq_true rfl) (S_badAsTen ?_))
    exact iX10_tallow_24 (hb q)
  refine iX10_tallow_0 (iX10_tallow_1 rfl rfl (iX10_tallow_4 ?_))
  refine iX10_tallow_5P plMC (chW (C 0)) [.ref 16, .int x] (pt_plMC C F) (by decide) rfl rfl (Nat.le_of_ble_eq_true rfl) (S_hasPin hc.2.2.1.1.1 hc.2.2.1.1.2 (fun i hi e => ⟨rfl, ?_⟩) (fun a => ⟨rfl, ?_⟩))
  · subst e
    obtain ⟨hs1, he⟩ := hc.2.2.1.at hc.2.1.1.2 hi
    have ok := ok i hi rfl
    refine iX10_tallow_8 (fun h => False.elim (by revert h; decide)) (fun _ => (iX10_tallow_11 (iX10_tallow_12 (iX10_tallow_13 ?_))))
    refine iX10_tallow_14 (Nat.le_of_ble_eq_true rfl) (S_within (fun a2 b2 => ?_) (fun a2 => ?_))
    · have ok := ok ⟨a2, b2⟩
      have fin : ∀ w, (∀ G, FEq F G → Q (tlwR (C 0) n d k (slo (C 0) i) w) (hW C G)) → V kX10_tallow 40 [some (.ref 16), some (.int (nI i)), some (.int y)] [.int w, .int (nI i), .ref 102] (hW C F) 0 0 (qI Q) := by
        intro w ok
        refine iX10_tallow_40F plMO (olW (F 4) (F 5) (F 6) (F 7) (C 0)) [.ref 16, .int (nI i), .int w] (pt_plMO C F) (by decide) rfl rfl (Nat.le_of_ble_eq_true rfl) (S_tallow hc.2.1 (by omega) hs1 he (fun br bh => ?_))
        change V kX10_tallow 43 _ _ (wr (rn plMO 92) _ plMO _) 0 0 _
        rw [wr_plMO, va_upC]
        exact iX10_tallow_43 (ok _ (FEq.of F _ _ _ _))
      refine iX10_tallow_17 (fun _ => (iX10_tallow_25 (iX10_tallow_26 rfl rfl (iX10_tallow_29 (iX10_tallow_30 (iX10_tallow_31 ?_)))))) (fun h => False.elim (by revert h; decide))
      refine iX10_tallow_32 (fun g => ?_) (fun g => ?_)
      · rw [if_neg g] at ok
        refine iX10_tallow_39 ?_
        exact fin _ ok
      · rw [if_pos g] at ok
        refine iX10_tallow_35 (iX10_tallow_36 ?_)
        exact fin _ ok
    · refine iX10_tallow_17 (fun h => False.elim (by revert h; decide)) (fun _ => ?_)
      exact bad (fun q => a2 q.2)
  · refine iX10_tallow_8 (fun _ => ?_) (fun h => False.elim (by revert h; decide))
    exact bad (fun q => a q.1)
theorem H_race (hc : COk (C 0) n d p u k) (hb : ¬ ((1 ≤ x ∧ x ≤ 9) ∧ (1 ≤ y ∧ y ≤ 9)) → Q (-2) (hW C (badF F))) (ok : (1 ≤ x ∧ x ≤ 9) → (1 ≤ y ∧ y ≤ 9) → ∀ G, FEq F G → Q (raceR (C 0) n d k x y) (hW C G)) : CallI kX10_race [.ref 16, .int x, .int y] (hW C F) Q := by
  refine e_X10_race ?_
  have bad : ¬ ((1 ≤ x ∧ x ≤ 9) ∧ (1 ≤ y ∧ y ≤ 9)) → V kX10_race 20 [some (.ref 16), some (.int x), some (.int y)] [] (hW C F) 0 0 (qI Q) := by
    intro q
    refine iX10_race_20 (iX10_race_21 (iX10_race_23 rfl (Nat.le_of_ble_eq_true rfl) (S_counted ?_)))
    exact iX10_race_26 (hb q)
  refine iX10_race_0 (iX10_race_1 (iX10_race_2 ?_))
  refine iX10_race_4 (Nat.le_of_ble_eq_true rfl) (S_within (fun a b => ?_) (fun a => ?_))
  · refine iX10_race_7 (fun h => False.elim (by revert h; decide)) (fun _ => (iX10_race_10 (iX10_race_11 (iX10_race_12 ?_))))
    refine iX10_race_14 (Nat.le_of_ble_eq_true rfl) (S_within (fun a2 b2 => ?_) (fun a2 => ?_))
    · have ok := ok ⟨a, b⟩ ⟨a2, b2⟩
      have hy0 : ¬ y = 0 := fun e => by subst e; exact absurd a2 (by decide)
      refine iX10_race_17 (fun _ => (iX10_race_27 (iX10_race_28 rfl rfl (iX10_race_31 (iX10_race_32 ?_))))) (fun h => False.elim (by revert h; decide))
      refine iX10_race_33F plMO (olW (F 4) (F 5) (F 6) (F 7) (C 0)) [.ref 16, .int x, .int y] (pt_plMO C F) (by decide) rfl rfl (Nat.le_of_ble_eq_true rfl) (S_firstOut hc.2.1 a2 hy0 (fun br bh => ?_))
      change V kX10_race 36 _ _ (wr (rn plMO 92) _ plMO _) 0 0 _
      rw [wr_plMO, va_upC]
      exact iX10_race_36 (ok _ (FEq.of F _ _ _ _))
    · refine iX10_race_17 (fun h => False.elim (by revert h; decide)) (fun _ => ?_)
      exact bad (fun q => a2 q.2)
  · refine iX10_race_7 (fun _ => ?_) (fun h => False.elim (by revert h; decide))
    exact bad (fun q => a q.1)
theorem H_game {x2 y2 w : Int32} (hc : COk (C 0) n d p u k) (hb : ¬ ((0 ≤ x ∧ x ≤ 2) ∧ (0 ≤ y ∧ y ≤ 2) ∧ ¬ x = y ∧ (0 ≤ w ∧ w ≤ 1) ∧ (0 ≤ x2 ∧ x2 ≤ nI d - 1) ∧ (0 ≤ y2 ∧ y2 ≤ nI d - 1) ∧ ¬ x2 = y2) → Q (-10) (hW C (badF F))) (ok : (0 ≤ x ∧ x ≤ 2) → (0 ≤ y ∧ y ≤ 2) → ¬ x = y → (0 ≤ w ∧ w ≤ 1) → ∀ i j, i < d → j < d → x2 = nI i → y2 = nI j → ¬ x2 = y2 → ∀ G, FEq F G → Q (if w = 0 then (gameS (C 0) n d k p x x2 y y2).1 else (gameS (C 0) n d k p x x2 y y2).2) (hW C G)) : CallI kX10_game [.ref 16, .int x, .int x2, .int y, .int y2, .int w] (hW C F) Q := by
  refine e_X10_game ?_
  have bad : ¬ ((0 ≤ x ∧ x ≤ 2) ∧ (0 ≤ y ∧ y ≤ 2) ∧ ¬ x = y ∧ (0 ≤ w ∧ w ≤ 1) ∧ (0 ≤ x2 ∧ x2 ≤ nI d - 1) ∧ (0 ≤ y2 ∧ y2 ≤ nI d - 1) ∧ ¬ x2 = y2) → V kX10_game 29 [some (.ref 16), some (.int x), some (.int x2), some (.int y), some (.int y2), some (.int w)] [] (hW C F) 0 0 (qI Q) := by
    intro q
    refine iX10_game_29 (iX10_game_30 rfl (Nat.le_of_ble_eq_true rfl) (S_badAsTen ?_))
    exact iX10_game_33 (hb q)
  have bad2 : ¬ ((0 ≤ x ∧ x ≤ 2) ∧ (0 ≤ y ∧ y ≤ 2) ∧ ¬ x = y ∧ (0 ≤ w ∧ w ≤ 1) ∧ (0 ≤ x2 ∧ x2 ≤ nI d - 1) ∧ (0 ≤ y2 ∧ y2 ≤ nI d - 1) ∧ ¬ x2 = y2) → V kX10_game 63 [some (.ref 16), some (.int x), some (.int x2), some (.int y), some (.int y2), some (.int w)] [] (hW C F) 0 0 (qI Q) := by
    intro q
    refine iX10_game_63 (iX10_game_64 rfl (Nat.le_of_ble_eq_true rfl) (S_badAsTen ?_))
    exact iX10_game_67 (hb q)
  refine iX10_game_0 ?_
  refine iX10_game_1 (Nat.le_of_ble_eq_true rfl) (S_isParty (fun a b => ?_) (fun a => ?_))
  · refine iX10_game_4 (fun h => False.elim (by revert h; decide)) (fun _ => (iX10_game_7 ?_))
    refine iX10_game_8 (Nat.le_of_ble_eq_true rfl) (S_isParty (fun a2 b2 => ?_) (fun a2 => ?_))
    · refine iX10_game_11 (fun h => False.elim (by revert h; decide)) (fun _ => (iX10_game_14 (iX10_game_15 ?_)))
      refine iX10_game_16 (fun g => ?_) (fun g => ?_)
      · exact bad (fun q => q.2.2.1 g)
      · refine iX10_game_19 (iX10_game_21 (iX10_game_22 ?_))
        refine iX10_game_23 (Nat.le_of_ble_eq_true rfl) (S_within (fun a3 b3 => ?_) (fun a3 => ?_))
        · refine iX10_game_26 (fun _ => (iX10_game_34 (iX10_game_35 rfl rfl (iX10_game_38 ?_)))) (fun h => False.elim (by revert h; decide))
          refine iX10_game_39P plMC (chW (C 0)) [.ref 16, .int x2] (pt_plMC C F) (by decide) rfl rfl (Nat.le_of_ble_eq_true rfl) (S_hasDoor hc.2.1.2.1.1 hc.2.1.2.1.2 (fun i hi e => ⟨rfl, ?_⟩) (fun a4 => ⟨rfl, ?_⟩))
          · refine iX10_game_42 (fun h => False.elim (by revert h; decide)) (fun _ => (iX10_game_45 (iX10_game_46 rfl rfl (iX10_game_49 ?_))))
            refine iX10_game_51P plMC (chW (C 0)) [.ref 16, .int y2] (pt_plMC C F) (by decide) rfl rfl (Nat.le_of_ble_eq_true rfl) (S_hasDoor hc.2.1.2.1.1 hc.2.1.2.1.2 (fun j hj e2 => ⟨rfl, ?_⟩) (fun a4 => ⟨rfl, ?_⟩))
            · refine iX10_game_54 (fun h => False.elim (by revert h; decide)) (fun _ => (iX10_game_57 (iX10_game_58 ?_)))
              refine iX10_game_60 (fun g2 => ?_) (fun g2 => ?_)
              · have ok := ok ⟨a, b⟩ ⟨a2, b2⟩ g ⟨a3, b3⟩ i j hi hj e e2 g2
                refine iX10_game_68 (iX10_game_69 rfl rfl (iX10_game_72 (iX10_game_73 (iX10_game_74 (iX10_game_75 ?_)))))
                refine iX10_game_77F plMO (olW (F 4) (F 5) (F 6) (F 7) (C 0)) [.ref 16, .int x, .int x2, .int y, .int y2] (pt_plMO C F) (by decide) rfl rfl (Nat.le_of_ble_eq_true rfl) (S_playDoors hc.2.1 hc.2.2.1 (fun br bh g1 g2 h1 h2 => ?_))
                change V kX10_game 80 _ _ (wr (rn plMO 92) _ plMO _) 0 0 _
                rw [wr_plMO, va_upC]
                have ok := ok _ (FEq.of F br bh g1 g2)
                unfold gameS at ok
                rw [← rsS_congr h1 h2] at ok
                refine iX10_game_80 (iX10_game_81 rfl rfl (iX10_game_84 ?_))
                refine iX10_game_86P plMO (olW br bh g1 g2 (C 0)) [.ref 16, .int w] (pt_plMO C (va_up (va_up (va_up (va_up F 4 br) 5 bh) 6 g1) 7 g2)) (by decide) rfl rfl (Nat.le_of_ble_eq_true rfl) (S_pairs ⟨rfl, ?_⟩)
                exact iX10_game_89 ok
              · exact bad2 (fun q => q.2.2.2.2.2.2 g2)
            · refine iX10_game_54 (fun _ => ?_) (fun h => False.elim (by revert h; decide))
              exact bad2 (fun q => a4 q.2.2.2.2.2.1)
          · refine iX10_game_42 (fun _ => ?_) (fun h => False.elim (by revert h; decide))
            exact bad2 (fun q => a4 q.2.2.2.2.1)
        · refine iX10_game_26 (fun h => False.elim (by revert h; decide)) (fun _ => ?_)
          exact bad (fun q => a3 q.2.2.2.1)
    · refine iX10_game_11 (fun _ => ?_) (fun h => False.elim (by revert h; decide))
      exact bad (fun q => a2 q.2.1)
  · refine iX10_game_4 (fun _ => ?_) (fun h => False.elim (by revert h; decide))
    exact bad (fun q => a q.1)
theorem H_moths (hc : COk (C 0) n d p u k) (hb : ¬ ((0 ≤ x ∧ x ≤ 60) ∧ (0 ≤ y ∧ y ≤ 100) ∧ (0 ≤ z ∧ z ≤ 999999)) → Q (-2) (hW C (badF F))) (ok : (0 ≤ y ∧ y ≤ 100) → (0 ≤ z ∧ z ≤ 999999) → ∀ m, m ≤ 60 → x = nI m → Q (mthR (C 0) n d k m y.toInt64 z.toInt64) (hW C F)) : CallI kX10_moths [.ref 16, .int x, .int y, .int z] (hW C F) Q := by
  refine e_X10_moths ?_
  have bad : ¬ ((0 ≤ x ∧ x ≤ 60) ∧ (0 ≤ y ∧ y ≤ 100) ∧ (0 ≤ z ∧ z ≤ 999999)) → V kX10_moths 30 [some (.ref 16), some (.int x), some (.int y), some (.int z)] [] (hW C F) 0 0 (qI Q) := by
    intro q
    refine iX10_moths_30 (iX10_moths_31 (iX10_moths_33 rfl (Nat.le_of_ble_eq_true rfl) (S_counted ?_)))
    exact iX10_moths_36 (hb q)
  refine iX10_moths_0 (iX10_moths_1 (iX10_moths_2 ?_))
  refine iX10_moths_4 (Nat.le_of_ble_eq_true rfl) (S_within (fun a b => ?_) (fun a => ?_))
  · refine iX10_moths_7 (fun h => False.elim (by revert h; decide)) (fun _ => (iX10_moths_10 (iX10_moths_11 (iX10_moths_12 ?_))))
    refine iX10_moths_14 (Nat.le_of_ble_eq_true rfl) (S_within (fun a2 b2 => ?_) (fun a2 => ?_))
    · refine iX10_moths_17 (fun h => False.elim (by revert h; decide)) (fun _ => (iX10_moths_20 (iX10_moths_21 (iX10_moths_22 ?_))))
      refine iX10_moths_24 (Nat.le_of_ble_eq_true rfl) (S_within (fun a3 b3 => ?_) (fun a3 => ?_))
      · obtain ⟨m, hm, e⟩ := nI_of2 (M := 60) (n := 60) (by decide) (i32_len a) b
        have fin := ok ⟨a2, b2⟩ ⟨a3, b3⟩ m hm e
        subst e
        refine iX10_moths_27 (fun _ => (iX10_moths_37 (iX10_moths_38 rfl rfl (iX10_moths_41 (iX10_moths_42 (iX10_moths_43 ?_)))))) (fun h => False.elim (by revert h; decide))
        refine iX10_moths_44P plMO (olW (F 4) (F 5) (F 6) (F 7) (C 0)) [.ref 16, .int (nI m), .int y, .int z] (pt_plMO C F) (by decide) rfl rfl (Nat.le_of_ble_eq_true rfl) (S_moths hc.2.1 hm ⟨rfl, ?_⟩)
        exact iX10_moths_47 fin
      · refine iX10_moths_27 (fun h => False.elim (by revert h; decide)) (fun _ => ?_)
        exact bad (fun q => a3 q.2.2)
    · refine iX10_moths_17 (fun _ => ?_) (fun h => False.elim (by revert h; decide))
      exact bad (fun q => a2 q.2.1)
  · refine iX10_moths_7 (fun _ => ?_) (fun h => False.elim (by revert h; decide))
    exact bad (fun q => a q.1)
theorem H_loan (hc : COk (C 0) n d p u k) (hb : ¬ (0 ≤ x ∧ x ≤ 1) → Q (-2) (hW C (badF F))) (ok : 0 ≤ x → x ≤ 1 → Q (loanR (C 0) n x) (hW C F)) : CallI kX10_loan [.ref 16, .int x] (hW C F) Q := by
  refine e_X10_loan ?_
  unfold loanR at ok
  refine iX10_loan_0 (iX10_loan_1 (iX10_loan_2 ?_))
  refine iX10_loan_3 (Nat.le_of_ble_eq_true rfl) (S_within (fun a b => ?_) (fun a => ?_))
  · have ok := ok a b
    have hle : owL ((C 0).2 0) ((C 0).1 2) n 0 ≤ n := by
      have := owL_le ((C 0).2 0) ((C 0).1 2) n 0
      omega
    refine iX10_loan_6 (fun _ => (iX10_loan_16 (iX10_loan_17 rfl rfl ?_))) (fun h => False.elim (by revert h; decide))
    refine iX10_loan_20P plMC (chW (C 0)) [.ref 16] (pt_plMC C F) (by decide) rfl rfl (Nat.le_of_ble_eq_true rfl) (S_slicesOwed hc.2.1.1.1 hc.2.1.1.2 ⟨rfl, ?_⟩)
    refine iX10_loan_23 rfl (iX10_loan_24 ?_)
    refine iX10_loan_25 (fun g => ?_) (fun g => ?_)
    · rw [if_neg g] at ok
      refine iX10_loan_32 (iX10_loan_33 rfl rfl (iX10_loan_36 rfl rfl (iX10_loan_39 (iX10_loan_40 rfl rfl (iX10_loan_43 ?_)))))
      refine iX10_loan_44P plMC (chW (C 0)) [.ref 16, .int (nI (owL ((C 0).2 0) ((C 0).1 2) n 0))] (pt_plMC C F) (by decide) rfl rfl (Nat.le_of_ble_eq_true rfl) (S_waxAbove hc.2.1.1.1 hc.2.1.1.2 hle ⟨rfl, ?_⟩)
      refine iX10_loan_47 ?_
      exact iX10_loan_48 ok
    · rw [if_pos g] at ok
      refine iX10_loan_28 (iX10_loan_29 ?_)
      exact iX10_loan_48 ok
  · refine iX10_loan_6 (fun h => False.elim (by revert h; decide)) (fun _ => (iX10_loan_9 (iX10_loan_10 (iX10_loan_12 rfl (Nat.le_of_ble_eq_true rfl) (S_counted ?_)))))
    exact iX10_loan_15 (hb a)
end Calls3
