theorem mtS_or (f : Nat → Int32) (g : Int32) : ∀ z i, mtS f g z i = -1 ∨ ∃ j, j < i + z ∧ mtS f g z i = nI (j + 1)
  | 0, _ => Or.inl rfl
  | z + 1, i => by
    unfold mtS
    split
    · rcases mtS_or f g z (i + 1) with h | ⟨j, h1, h2⟩
      · exact Or.inl h
      · exact Or.inr ⟨j, by omega, h2⟩
    · exact Or.inr ⟨i, by omega, rfl⟩
theorem mOf_or {c : Ch} {n d : Nat} (hs : Sm c n d) (f : Nat → Int32) (g : Int32) : mOf c (mtS f g 200 0) = -1 ∨ 0 ≤ mOf c (mtS f g 200 0) := by
  obtain ⟨t0, h1, h2⟩ := hs.2.1
  unfold mOf
  rcases mtS_or f g 200 0 with h | ⟨j, h3, h4⟩
  · rw [if_pos h]
    exact Or.inl rfl
  · have hp : ¬ nI (j + 1) = -1 := fun e => by
      have := nI_pos' (n := j + 1) (by omega)
      rw [e] at this
      exact absurd this (by decide)
    rw [h4, if_neg hp, h2, nI_add, ← Nat.add_assoc, nI_pred]
    exact Or.inr (nI_pos' (by omega))
theorem fall_or {c : Ch} {n d k i : Nat} {w : Int32} (hs : Sm c n d) : fall c n d k w i = -1 ∨ 0 ≤ fall c n d k w i := by
  unfold fall
  split
  · exact Or.inl rfl
  · exact mOf_or hs _ _
section Ask
variable {c : Ch} {R T K D s : Nat → Int32} {n d p u k i : Nat} {x y z t w : Int32} {Q : Int32 → Wd → Prop}
theorem N_house (r : Rl c R n d p u k) (hb : ¬ (0 ≤ t ∧ t ≤ 299) → Q (-10) (mW R T K D (bump s 1))) (ok : 0 ≤ t → t ≤ 299 → Q (hs c k t) (mW R T K D s)) : CallI kX11_house [.ref 16, .int t] (mW R T K D s) Q := by
  refine e_X11_house ?_
  refine iX11_house_0 (iX11_house_1 (Nat.le_of_ble_eq_true rfl) (M_isMinute (fun a b => ?_) (fun a => ?_)))
  · refine iX11_house_4 (fun h => False.elim (by revert h; decide)) (fun _ => (iX11_house_7 (iX11_house_8 (iX11_house_9 rfl (Nat.le_of_ble_eq_true rfl) (M_houseIn r a (iX11_house_12 ?_))))))
    exact iX11_house_21 (ok a b)
  · refine iX11_house_4 (fun _ => (iX11_house_15 (iX11_house_16 (iX11_house_18 rfl (Nat.le_of_ble_eq_true rfl) (M_isBad ?_))))) (fun h => False.elim (by revert h; decide))
    exact iX11_house_21 (hb a)
theorem N_votes (r : Rl c R n d p u k) (hb : ¬ ((0 ≤ x ∧ x ≤ 2) ∧ (0 ≤ t ∧ t ≤ 299)) → Q (-2) (mW R T K D (bump s 1))) (ok : 0 ≤ x → x ≤ 2 → 0 ≤ t → t ≤ 299 → Q (l_sum (bVot c.2 x t) k) (mW R T K D s)) : CallI kX11_votes [.ref 16, .int x, .int t] (mW R T K D s) Q := by
  refine e_X11_votes ?_
  have bad : ¬ ((0 ≤ x ∧ x ≤ 2) ∧ (0 ≤ t ∧ t ≤ 299)) → V kX11_votes 23 [some (.ref 16), some (.int x), some (.int t)] [] (mW R T K D s) 0 0 (qI Q) := by
    intro q
    refine iX11_votes_23 (iX11_votes_24 (iX11_votes_26 rfl (Nat.le_of_ble_eq_true rfl) (M_isBad ?_)))
    exact iX11_votes_29 (hb q)
  refine iX11_votes_0 (iX11_votes_1 (Nat.le_of_ble_eq_true rfl) (M_isParty (fun a b => ?_) (fun a => ?_)))
  · refine iX11_votes_4 (fun h => False.elim (by revert h; decide)) (fun _ => (iX11_votes_7 ?_))
    refine iX11_votes_8 (Nat.le_of_ble_eq_true rfl) (M_isMinute (fun a2 b2 => ?_) (fun a2 => ?_))
    · refine iX11_votes_11 (fun h => False.elim (by revert h; decide)) (fun _ => (iX11_votes_14 (iX11_votes_15 (iX11_votes_16 (iX11_votes_17 rfl (Nat.le_of_ble_eq_true rfl) (M_votesOf r a2 (iX11_votes_20 ?_)))))))
      exact iX11_votes_29 (ok a b a2 b2)
    · refine iX11_votes_11 (fun _ => ?_) (fun h => False.elim (by revert h; decide))
      exact bad (fun q => a2 q.2)
  · refine iX11_votes_4 (fun _ => ?_) (fun h => False.elim (by revert h; decide))
    exact bad (fun q => a q.1)
theorem N_burns (r : Rl c R n d p u k) (hs : Sm c n d) (hb : ¬ (0 ≤ t ∧ t ≤ 299) → Q (-2) (mW R T K D (bump s 1))) (ok : 0 ≤ t → t ≤ 299 → Q (cFl c d k t) (mW R T K D s)) : CallI kX11_burns [.ref 16, .int t] (mW R T K D s) Q := by
  refine e_X11_burns ?_
  refine iX11_burns_0 (iX11_burns_1 (Nat.le_of_ble_eq_true rfl) (M_isMinute (fun a b => ?_) (fun a => ?_)))
  · refine iX11_burns_4 (fun h => False.elim (by revert h; decide)) (fun _ => (iX11_burns_7 (iX11_burns_8 (iX11_burns_9 (iX11_burns_10 rfl (Nat.le_of_ble_eq_true rfl) (M_openSet r hs.1 (iX11_burns_13 rfl (Nat.le_of_ble_eq_true rfl) (M_burnsBy r a (iX11_burns_16 ?_)))))))))
    exact iX11_burns_25 (ok a b)
  · refine iX11_burns_4 (fun _ => (iX11_burns_19 (iX11_burns_20 (iX11_burns_22 rfl (Nat.le_of_ble_eq_true rfl) (M_isBad ?_))))) (fun h => False.elim (by revert h; decide))
    exact iX11_burns_25 (hb a)
theorem N_fallen (r : Rl c R n d p u k) (hb : ¬ (0 ≤ x ∧ x ≤ nI p - 1) → Q (-2) (mW R T K D (bump s 1))) (ok : ∀ i, i < p → x = nI i → Q (if past c (slo c i) then 1 else 0) (mW R T K D s)) : CallI kX11_fallen [.ref 16, .int x] (mW R T K D s) Q := by
  refine e_X11_fallen ?_
  refine iX11_fallen_0 (iX11_fallen_1 (iX11_fallen_2 rfl (Nat.le_of_ble_eq_true rfl) (M_isPin r (fun i hi e => ?_) (fun a => ?_))))
  · subst e
    have ok := ok i hi rfl
    have hs1 := (r.ok.2.2.1.at r.ok.2.1.1.2 hi).1
    refine iX11_fallen_5 (fun _ => (iX11_fallen_17 (iX11_fallen_18 (iX11_fallen_19 (iX11_fallen_20 rfl (Nat.le_of_ble_eq_true rfl) (M_sliceOf r hi ?_)))))) (fun h => False.elim (by revert h; decide))
    refine iX11_fallen_23 rfl (Nat.le_of_ble_eq_true rfl) (M_hasFallen r (Nat.le_of_lt hs1) (fun q => ?_) (fun q => ?_))
    · rw [if_pos q] at ok
      refine iX11_fallen_26 (fun h => False.elim (by revert h; decide)) (fun _ => (iX11_fallen_29 (iX11_fallen_30 ?_)))
      exact iX11_fallen_34 ok
    · rw [if_neg q] at ok
      refine iX11_fallen_26 (fun _ => (iX11_fallen_33 ?_)) (fun h => False.elim (by revert h; decide))
      exact iX11_fallen_34 ok
  · refine iX11_fallen_5 (fun h => False.elim (by revert h; decide)) (fun _ => (iX11_fallen_8 (iX11_fallen_9 (iX11_fallen_11 rfl (Nat.le_of_ble_eq_true rfl) (M_isBad (iX11_fallen_14 ?_))))))
    exact iX11_fallen_34 (hb a)
theorem N_falls (r : Rl c R n d p u k) (hs : Sm c n d) (hb : ¬ (0 ≤ x ∧ x ≤ nI p - 1) → Q (-10) (mW R T K D (bump s 1))) (ok : ∀ i, i < p → x = nI i → Q (fall c n d k (c.1 5) (slo c i)) (mW R T K D s)) : CallI kX11_falls [.ref 16, .int x] (mW R T K D s) Q := by
  refine e_X11_falls ?_
  refine iX11_falls_0 (iX11_falls_1 (iX11_falls_2 rfl (Nat.le_of_ble_eq_true rfl) (M_isPin r (fun i hi e => ?_) (fun a => ?_))))
  · subst e
    have hs1 := (r.ok.2.2.1.at r.ok.2.1.1.2 hi).1
    refine iX11_falls_5 (fun h => False.elim (by revert h; decide)) (fun _ => (iX11_falls_8 (iX11_falls_9 (iX11_falls_10 (iX11_falls_11 rfl (Nat.le_of_ble_eq_true rfl) (M_sliceOf r hi (iX11_falls_14 (iX11_falls_15 rfl (Nat.le_of_ble_eq_true rfl) (M_openSet r hs.1 (iX11_falls_18 rfl (Nat.le_of_ble_eq_true rfl) (M_fallsBy r hs (Nat.le_of_lt hs1) (iX11_falls_21 ?_))))))))))))
    exact iX11_falls_30 (ok i hi rfl)
  · refine iX11_falls_5 (fun _ => (iX11_falls_24 (iX11_falls_25 (iX11_falls_27 rfl (Nat.le_of_ble_eq_true rfl) (M_isBad ?_))))) (fun h => False.elim (by revert h; decide))
    exact iX11_falls_30 (hb a)
theorem N_out (r : Rl c R n d p u k) (hs : Sm c n d) (ok : Q (outM c n d k) (mW R T K D s)) : CallI kX11_out [.ref 16] (mW R T K D s) Q := by
  refine e_X11_out ?_
  unfold outM at ok
  refine iX11_out_0 (iX11_out_1 rfl rfl (iX11_out_4 (iX11_out_5 (j := 1) rfl rfl (by decide) (by decide) (iX11_out_6 (iX11_out_7 (iX11_out_8 rfl (Nat.le_of_ble_eq_true rfl) (M_allWax r (Hw0 c) ?_)))))))
  rw [r.e1]
  refine iX11_out_11 (fun q => ?_) (fun q => ?_)
  · rw [if_neg (fun a => q (Int32.le_antisymm (i32_nlt hs.2.2) a))] at ok
    unfold mOf at ok
    refine iX11_out_18 (iX11_out_19 rfl (Nat.le_of_ble_eq_true rfl) (M_outIn r hs (iX11_out_22 rfl (iX11_out_23 (iX11_out_24 ?_)))))
    refine iX11_out_25 (fun q2 => ?_) (fun q2 => ?_)
    · rw [if_neg q2] at ok
      refine iX11_out_32 (iX11_out_33 rfl rfl (iX11_out_36 (iX11_out_37 (j := 2) rfl rfl (by decide) (by decide) (iX11_out_38 ?_))))
      rw [r.e2]
      refine iX11_out_39 (iX11_out_40 (iX11_out_41 ?_))
      exact iX11_out_42 ok
    · rw [if_pos q2] at ok
      refine iX11_out_28 (iX11_out_29 ?_)
      exact iX11_out_42 ok
  · rw [if_pos (by rw [q]; exact Int32.le_refl _)] at ok
    refine iX11_out_14 (iX11_out_15 (iX11_out_22 rfl (iX11_out_23 (iX11_out_24 (iX11_out_25 (fun h => False.elim (by revert h; decide)) (fun _ => (iX11_out_28 (iX11_out_29 ?_))))))))
    exact iX11_out_42 ok
theorem N_whose (r : Rl c R n d p u k) (sm : Sm c n d) (hb : ¬ (0 ≤ x ∧ x ≤ nI p - 1) → Q (-10) (mW R T K D (bump s 1))) (ok : ∀ i, i < p → x = nI i → Q ((if fall c n d k (c.1 5) (slo c i) = -1 then -1 else hs c k (fall c n d k (c.1 5) (slo c i)))) (mW R T K D s)) : CallI kX11_whose [.ref 16, .int x] (mW R T K D s) Q := by
  refine e_X11_whose ?_
  refine iX11_whose_0 (iX11_whose_1 (iX11_whose_2 rfl (Nat.le_of_ble_eq_true rfl) (M_isPin r (fun i hi e => ?_) (fun a => ?_))))
  · subst e
    have hs1 := (r.ok.2.2.1.at r.ok.2.1.1.2 hi).1
    have ok := ok i hi rfl
    refine iX11_whose_5 (fun _ => (iX11_whose_15 (iX11_whose_16 (iX11_whose_17 (iX11_whose_18 rfl (Nat.le_of_ble_eq_true rfl) (M_sliceOf r hi (iX11_whose_21 (iX11_whose_22 rfl (Nat.le_of_ble_eq_true rfl) (M_openSet r sm.1 (iX11_whose_25 rfl (Nat.le_of_ble_eq_true rfl) (M_fallsBy r sm (Nat.le_of_lt hs1) (iX11_whose_28 rfl (iX11_whose_29 (iX11_whose_30 ?_)))))))))))))) (fun h => False.elim (by revert h; decide))
    refine iX11_whose_31 (fun q => ?_) (fun q => ?_)
    · rw [if_neg q] at ok
      refine iX11_whose_38 (iX11_whose_39 (iX11_whose_40 rfl (Nat.le_of_ble_eq_true rfl) (M_houseIn r ((fall_or sm).resolve_left q) ?_)))
      exact iX11_whose_43 ok
    · rw [if_pos q] at ok
      refine iX11_whose_34 (iX11_whose_35 ?_)
      exact iX11_whose_43 ok
  · refine iX11_whose_5 (fun h => False.elim (by revert h; decide)) (fun _ => (iX11_whose_8 (iX11_whose_9 (iX11_whose_11 rfl (Nat.le_of_ble_eq_true rfl) (M_isBad ?_)))))
    exact iX11_whose_14 (hb a)
theorem N_reads (r : Rl c R n d p u k) (sm : Sm c n d) (hb : ¬ ((1 ≤ x ∧ x ≤ 9999) ∧ (1 ≤ y ∧ y ≤ 99) ∧ (0 ≤ z ∧ z ≤ nI p - 1)) → Q (-10) (mW R T K D (bump s 1))) (ok : 1 ≤ x → x ≤ 9999 → 1 ≤ y → y ≤ 99 → ∀ i, i < p → z = nI i → Q (wordsF c n d k (slo c i) x y) (mW R T K D s)) : CallI kX11_reads_ [.ref 16, .int x, .int y, .int z] (mW R T K D s) Q := by
  refine e_X11_reads_ ?_
  have bad : ¬ ((1 ≤ x ∧ x ≤ 9999) ∧ (1 ≤ y ∧ y ≤ 99) ∧ (0 ≤ z ∧ z ≤ nI p - 1)) → V kX11_reads_ 32 [some (.ref 16), some (.int x), some (.int y), some (.int z), none, none] [] (mW R T K D s) 0 0 (qI Q) := by
    intro q
    refine iX11_reads__32 (iX11_reads__33 (iX11_reads__35 rfl (Nat.le_of_ble_eq_true rfl) (M_isBad ?_)))
    exact iX11_reads__38 (hb q)
  refine iX11_reads__0 (iX11_reads__1 (iX11_reads__2 (iX11_reads__3 ?_)))
  refine iX11_reads__6 (Nat.le_of_ble_eq_true rfl) (S_in (lo := 1) (hi := 9999) rfl rfl (fun a b => ?_) (fun a => ?_))
  · refine iX11_reads__9 (fun h => False.elim (by revert h; decide)) (fun _ => (iX11_reads__12 (iX11_reads__13 (iX11_reads__14 (iX11_reads__15 ?_)))))
    refine iX11_reads__18 (Nat.le_of_ble_eq_true rfl) (S_in (lo := 1) (hi := 99) rfl rfl (fun a2 b2 => ?_) (fun a2 => ?_))
    · refine iX11_reads__21 (fun h => False.elim (by revert h; decide)) (fun _ => (iX11_reads__24 (iX11_reads__25 ?_)))
      refine iX11_reads__26 rfl (Nat.le_of_ble_eq_true rfl) (M_isPin r (fun i hi e => ?_) (fun a3 => ?_))
      · subst e
        have hs1 := (r.ok.2.2.1.at r.ok.2.1.1.2 hi).1
        have ok := ok a b a2 b2 i hi rfl
        unfold wordsF at ok
        refine iX11_reads__29 (fun _ => (iX11_reads__39 (iX11_reads__40 (iX11_reads__41 (iX11_reads__42 rfl (Nat.le_of_ble_eq_true rfl) (M_sliceOf r hi (iX11_reads__45 (iX11_reads__46 rfl (Nat.le_of_ble_eq_true rfl) (M_openSet r sm.1 (iX11_reads__49 rfl (Nat.le_of_ble_eq_true rfl) (M_fallsBy r sm (Nat.le_of_lt hs1) (iX11_reads__52 rfl (iX11_reads__54 (iX11_reads__55 (iX11_reads__57 (iX11_reads__58 rfl rfl (iX11_reads__61 (iX11_reads__62 (j := 2) rfl rfl (by decide) (by decide) ?_)))))))))))))))))) (fun h => False.elim (by revert h; decide))
        rw [r.e2]
        refine iX11_reads__63 (iX11_reads__64 (iX11_reads__65 (iX11_reads__66 (iX11_reads__67 rfl (iX11_reads__69 (iX11_reads__71 ?_))))))
        refine iX11_reads__72 (fun q => ?_) (fun q => ?_)
        · rw [if_neg q] at ok
          refine iX11_reads__79 (iX11_reads__81 ?_)
          refine iX11_reads__82 (fun q2 => ?_) (fun q2 => ?_)
          · rw [clip_eq q2] at ok
            refine iX11_reads__89 ?_
            exact iX11_reads__91 ok
          · rw [if_neg (fun a => q2 (Int32.le_of_lt a))] at ok
            refine iX11_reads__85 (iX11_reads__86 ?_)
            exact iX11_reads__91 ok
        · rw [if_pos q] at ok
          refine iX11_reads__75 (iX11_reads__76 ?_)
          exact iX11_reads__91 ok
      · refine iX11_reads__29 (fun h => False.elim (by revert h; decide)) (fun _ => ?_)
        exact bad (fun q => a3 q.2.2)
    · refine iX11_reads__21 (fun _ => ?_) (fun h => False.elim (by revert h; decide))
      exact bad (fun q => a2 q.2.1)
  · refine iX11_reads__9 (fun _ => ?_) (fun h => False.elim (by revert h; decide))
    exact bad (fun q => a q.1)
end Ask
