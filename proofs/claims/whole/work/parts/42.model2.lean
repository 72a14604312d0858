theorem rem2_01 {m : Int32} (h : 0 ≤ m) : rem2 m = 0 ∨ rem2 m = 1 := by
  obtain ⟨j, hj, e⟩ := nI_of (i32_len h)
  subst e
  have q : rem2 (nI j) = nI (j % 2) := pk_rem hj (by decide) (by decide)
  rw [q]
  rcases Nat.mod_two_eq_zero_or_one j with z | z
  · rw [z]; exact Or.inl rfl
  · rw [z]; exact Or.inr rfl
theorem rem2_n1 {m : Int32} (h : 0 ≤ m) (g : ¬ rem2 m = 1) : rem2 m = 0 := (rem2_01 h).resolve_right g
theorem rem2_n0 {m : Int32} (g : rem2 m = 1) : ¬ rem2 m = 0 := fun e => by rw [e] at g; exact absurd g (by decide)
def Hw (c : Ch) (how : Int32) (g : Nat → Int32) : Prop := (how = 0 ∧ g = c.2 0) ∨ (how = 1 ∧ g = tlw (c.2 0) 0) ∨ (how = 2 ∧ g = tlw (c.2 0) 1)
section Mod2
variable {c : Ch} {R T K D s : Nat → Int32} {n d p u k i : Nat} {x y z t w : Int32} {ws : Wd} {Q : Int32 → Wd → Prop} {g : Nat → Int32}
theorem M_thickOf (r : Rl c R n d p u k) (hg : Hw c y g) (hi : i < n) (h : Q (g i) (mW R T K D s)) : CallI kX11_thickOf [.ref 16, .int (nI i), .int y] (mW R T K D s) Q := by
  refine e_X11_thickOf ?_
  have hn20 := r.ok.2.1.1.2
  refine iX11_thickOf_0 (iX11_thickOf_1 rfl rfl (iX11_thickOf_4 (iX11_thickOf_5 (iX11_thickOf_6 (iX11_thickOf_7 rfl (nI_add 4 i) (by omega) (by decide) ?_)))))
  rw [r.th i hi]
  rcases hg with ⟨e1, e2⟩ | ⟨e1, e2⟩ | ⟨e1, e2⟩
  · subst e1
    subst e2
    refine iX11_thickOf_8 rfl (iX11_thickOf_9 (iX11_thickOf_10 (fun h => False.elim (by revert h; decide)) (fun _ => (iX11_thickOf_13 (iX11_thickOf_14 ?_)))))
    exact iX11_thickOf_33 h
  · subst e1
    subst e2
    refine iX11_thickOf_8 rfl (iX11_thickOf_9 (iX11_thickOf_10 (fun _ => (iX11_thickOf_17 (iX11_thickOf_18 (iX11_thickOf_19 (fun h => False.elim (by revert h; decide)) (fun _ => (iX11_thickOf_22 (iX11_thickOf_23 (iX11_thickOf_24 (iX11_thickOf_25 (iX11_thickOf_26 (by decide) (iX11_thickOf_27 ?_))))))))))) (fun h => False.elim (by revert h; decide))))
    exact iX11_thickOf_33 h
  · subst e1
    subst e2
    refine iX11_thickOf_8 rfl (iX11_thickOf_9 (iX11_thickOf_10 (fun _ => (iX11_thickOf_17 (iX11_thickOf_18 (iX11_thickOf_19 (fun _ => (iX11_thickOf_30 (iX11_thickOf_31 (iX11_thickOf_32 ?_)))) (fun h => False.elim (by revert h; decide)))))) (fun h => False.elim (by revert h; decide))))
    exact iX11_thickOf_33 h
theorem M_above (r : Rl c R n d p u k) (hg : Hw c y g) (hs : i ≤ n) (h : Q (l_sum g i) (mW R T K D s)) : CallI kX11_above [.ref 16, .int (nI i), .int y] (mW R T K D s) Q := by
  refine e_X11_above ?_
  have hn20 := r.ok.2.1.1.2
  refine iX11_above_0 (iX11_above_1 rfl (iX11_above_2 (iX11_above_3 rfl ?_)))
  refine dn i (P := fun j => V kX11_above 5 [some (.ref 16), some (.int (nI i)), some (.int y), some (.int (l_sum g j)), some (.int (nI j))] [] (mW R T K D s) 0 0 (qI Q)) ?_ 0 (Nat.zero_le _)
  intro j hj ih
  refine iX11_above_5 (iX11_above_7 ?_)
  refine iX11_above_8 (fun q => ?_) (fun q => ?_)
  · have e := eq_of hj (by omega) q
    subst e
    refine iX11_above_27 ?_
    exact iX11_above_28 h
  · have hlt := nlt_of (by omega) q
    have ih := ih hlt
    have e1 : nI j + 1 = nI (j + 1) := nI_1 j
    refine iX11_above_11 (iX11_above_12 (iX11_above_13 (iX11_above_15 (iX11_above_16 rfl (Nat.le_of_ble_eq_true rfl) (M_thickOf r hg (by omega) (iX11_above_19 (iX11_above_20 rfl (iX11_above_21 rfl (iX11_above_24 ?_)))))))))
    rw [e1]
    exact ih
theorem M_allWax (r : Rl c R n d p u k) (hg : Hw c y g) (h : Q (l_sum g n) (mW R T K D s)) : CallI kX11_allWax [.ref 16, .int y] (mW R T K D s) Q := by
  refine e_X11_allWax ?_
  refine iX11_allWax_0 (iX11_allWax_1 (iX11_allWax_2 rfl rfl (iX11_allWax_5 (iX11_allWax_6 (j := 0) rfl rfl (by decide) (by decide) (iX11_allWax_7 ?_)))))
  rw [r.e0, r.ok.2.1.1.1]
  refine iX11_allWax_8 rfl (Nat.le_of_ble_eq_true rfl) (M_above r hg (Nat.le_refl _) ?_)
  exact iX11_allWax_11 h
theorem Hw0 (c : Ch) : Hw c 0 (c.2 0) := Or.inl ⟨rfl, rfl⟩
theorem M_hasFallen (r : Rl c R n d p u k) (hs : i ≤ n) (h1 : past c i → Q 1 (mW R T K D s)) (h0 : ¬ past c i → Q 0 (mW R T K D s)) : CallI kX11_hasFallen [.ref 16, .int (nI i)] (mW R T K D s) Q := by
  refine e_X11_hasFallen ?_
  refine iX11_hasFallen_0 (iX11_hasFallen_1 rfl rfl (iX11_hasFallen_4 (iX11_hasFallen_5 (j := 2) rfl rfl (by decide) (by decide) ?_)))
  rw [r.e2]
  refine iX11_hasFallen_6 (fun q => ?_) (fun q => ?_)
  · refine iX11_hasFallen_28 ?_
    exact iX11_hasFallen_29 rfl (h0 (fun z => i32_len q z.1))
  · refine iX11_hasFallen_9 (iX11_hasFallen_10 rfl rfl (iX11_hasFallen_13 (iX11_hasFallen_14 (j := 1) rfl rfl (by decide) (by decide) (iX11_hasFallen_15 (iX11_hasFallen_16 (iX11_hasFallen_17 (iX11_hasFallen_18 rfl (Nat.le_of_ble_eq_true rfl) (M_above r (Hw0 c) hs ?_))))))))
    rw [r.e1]
    refine iX11_hasFallen_21 (fun q2 => ?_) (fun q2 => ?_)
    · refine iX11_hasFallen_28 ?_
      exact iX11_hasFallen_29 rfl (h0 (fun z => i32_len z.2 q2))
    · refine iX11_hasFallen_24 (iX11_hasFallen_25 ?_)
      exact iX11_hasFallen_29 rfl (h1 ⟨i32_nle q, i32_nlt q2⟩)
theorem M_isIn (r : Rl c R n d p u k) (hi : i < k) (h1 : bIn c.2 i t → Q 1 (mW R T K D s)) (h0 : ¬ bIn c.2 i t → Q 0 (mW R T K D s)) : CallI kX11_isIn [.ref 16, .int (nI i), .int t] (mW R T K D s) Q := by
  refine e_X11_isIn ?_
  have hk6 := r.ok.2.1.2.2.2.1
  refine iX11_isIn_0 (iX11_isIn_2 (iX11_isIn_3 (iX11_isIn_4 (iX11_isIn_5 (iX11_isIn_6 rfl (iX11_isIn_7 (iX11_isIn_8 (iX11_isIn_9 rfl rfl (iX11_isIn_12 (iX11_isIn_13 (iX11_isIn_14 (iX11_isIn_15 rfl (ix3 64 4 i 2) (by omega) (by decide) ?_))))))))))))
  rw [r.m2 i hi]
  refine iX11_isIn_16 (fun q => ?_) (fun q => ?_)
  · refine iX11_isIn_35 ?_
    exact iX11_isIn_36 rfl (h0 (fun z => i32_len z.1 q))
  · refine iX11_isIn_19 (iX11_isIn_20 (iX11_isIn_21 rfl rfl (iX11_isIn_24 (iX11_isIn_25 (iX11_isIn_26 (iX11_isIn_27 rfl (ix3 64 4 i 3) (by omega) (by decide) ?_))))))
    rw [r.m3 i hi]
    refine iX11_isIn_28 (fun q2 => ?_) (fun q2 => ?_)
    · refine iX11_isIn_35 ?_
      exact iX11_isIn_36 rfl (h0 (fun z => i32_len q2 z.2))
    · refine iX11_isIn_31 (iX11_isIn_32 ?_)
      exact iX11_isIn_36 rfl (h1 ⟨i32_nlt q, i32_nle q2⟩)
theorem M_votesBy (ht : 0 ≤ t) (hi : i < 6) (h : Q (kVot i t) ws) : CallI kX11_votesBy [.int (nI i), .int t] ws Q := by
  refine e_X11_votesBy ?_
  match i, hi, h with
  | 0, _, h =>
    refine iX11_votesBy_0 (iX11_votesBy_1 (iX11_votesBy_2 (fun _ => (iX11_votesBy_9 (iX11_votesBy_10 (iX11_votesBy_11 (fun _ => (iX11_votesBy_18 (iX11_votesBy_19 (iX11_votesBy_20 (fun h => False.elim (by revert h; decide)) (fun _ => (iX11_votesBy_23 (iX11_votesBy_24 (iX11_votesBy_25 (fun _ => (iX11_votesBy_39 ?_)) (fun h => False.elim (by revert h; decide)))))))))) (fun h => False.elim (by revert h; decide)))))) (fun h => False.elim (by revert h; decide))))
    exact iX11_votesBy_40 h
  | 1, _, h =>
    refine iX11_votesBy_0 (iX11_votesBy_1 (iX11_votesBy_2 (fun _ => (iX11_votesBy_9 (iX11_votesBy_10 (iX11_votesBy_11 (fun _ => (iX11_votesBy_18 (iX11_votesBy_19 (iX11_votesBy_20 (fun _ => (iX11_votesBy_28 (iX11_votesBy_29 (iX11_votesBy_30 (by decide) (iX11_votesBy_31 ?_))))) (fun h => False.elim (by revert h; decide)))))) (fun h => False.elim (by revert h; decide)))))) (fun h => False.elim (by revert h; decide))))
    refine iX11_votesBy_32 (fun q => ?_) (fun q => ?_)
    · have h : Q (if rem2 t = 0 then 1 else 0) ws := h
      rw [if_pos (rem2_n1 ht q)] at h
      refine iX11_votesBy_39 ?_
      exact iX11_votesBy_40 h
    · have h : Q (if rem2 t = 0 then 1 else 0) ws := h
      rw [if_neg (rem2_n0 q)] at h
      refine iX11_votesBy_35 (iX11_votesBy_36 ?_)
      exact iX11_votesBy_40 h
  | 2, _, h =>
    refine iX11_votesBy_0 (iX11_votesBy_1 (iX11_votesBy_2 (fun _ => (iX11_votesBy_9 (iX11_votesBy_10 (iX11_votesBy_11 (fun _ => (iX11_votesBy_18 (iX11_votesBy_19 (iX11_votesBy_20 (fun h => False.elim (by revert h; decide)) (fun _ => (iX11_votesBy_23 (iX11_votesBy_24 (iX11_votesBy_25 (fun _ => (iX11_votesBy_39 ?_)) (fun h => False.elim (by revert h; decide)))))))))) (fun h => False.elim (by revert h; decide)))))) (fun h => False.elim (by revert h; decide))))
    exact iX11_votesBy_40 h
  | 3, _, h =>
    refine iX11_votesBy_0 (iX11_votesBy_1 (iX11_votesBy_2 (fun _ => (iX11_votesBy_9 (iX11_votesBy_10 (iX11_votesBy_11 (fun h => False.elim (by revert h; decide)) (fun _ => (iX11_votesBy_14 (iX11_votesBy_15 ?_))))))) (fun h => False.elim (by revert h; decide))))
    exact iX11_votesBy_40 h
  | 4, _, h =>
    refine iX11_votesBy_0 (iX11_votesBy_1 (iX11_votesBy_2 (fun _ => (iX11_votesBy_9 (iX11_votesBy_10 (iX11_votesBy_11 (fun _ => (iX11_votesBy_18 (iX11_votesBy_19 (iX11_votesBy_20 (fun h => False.elim (by revert h; decide)) (fun _ => (iX11_votesBy_23 (iX11_votesBy_24 (iX11_votesBy_25 (fun h => False.elim (by revert h; decide)) (fun _ => (iX11_votesBy_28 (iX11_votesBy_29 (iX11_votesBy_30 (by decide) (iX11_votesBy_31 ?_))))))))))))) (fun h => False.elim (by revert h; decide)))))) (fun h => False.elim (by revert h; decide))))
    refine iX11_votesBy_32 (fun q => ?_) (fun q => ?_)
    · have h : Q (if rem2 t = 0 then 1 else 0) ws := h
      rw [if_pos (rem2_n1 ht q)] at h
      refine iX11_votesBy_39 ?_
      exact iX11_votesBy_40 h
    · have h : Q (if rem2 t = 0 then 1 else 0) ws := h
      rw [if_neg (rem2_n0 q)] at h
      refine iX11_votesBy_35 (iX11_votesBy_36 ?_)
      exact iX11_votesBy_40 h
  | 5, _, h =>
    refine iX11_votesBy_0 (iX11_votesBy_1 (iX11_votesBy_2 (fun h => False.elim (by revert h; decide)) (fun _ => (iX11_votesBy_5 (iX11_votesBy_6 ?_)))))
    exact iX11_votesBy_40 h
  | i + 6, hi, _ => exact absurd hi (by omega)
theorem M_breathBy (ht : 0 ≤ t) (hi : i < 6) (h : Q (kBre i t) ws) : CallI kX11_breathBy [.int (nI i), .int t] ws Q := by
  refine e_X11_breathBy ?_
  match i, hi, h with
  | 0, _, h =>
    refine iX11_breathBy_0 (iX11_breathBy_1 (iX11_breathBy_2 (fun _ => (iX11_breathBy_9 (iX11_breathBy_10 (iX11_breathBy_11 (fun h => False.elim (by revert h; decide)) (fun _ => (iX11_breathBy_14 (iX11_breathBy_15 (iX11_breathBy_16 (fun _ => (iX11_breathBy_30 ?_)) (fun h => False.elim (by revert h; decide)))))))))) (fun h => False.elim (by revert h; decide))))
    exact iX11_breathBy_31 h
  | 1, _, h =>
    refine iX11_breathBy_0 (iX11_breathBy_1 (iX11_breathBy_2 (fun _ => (iX11_breathBy_9 (iX11_breathBy_10 (iX11_breathBy_11 (fun h => False.elim (by revert h; decide)) (fun _ => (iX11_breathBy_14 (iX11_breathBy_15 (iX11_breathBy_16 (fun _ => (iX11_breathBy_30 ?_)) (fun h => False.elim (by revert h; decide)))))))))) (fun h => False.elim (by revert h; decide))))
    exact iX11_breathBy_31 h
  | 2, _, h =>
    refine iX11_breathBy_0 (iX11_breathBy_1 (iX11_breathBy_2 (fun _ => (iX11_breathBy_9 (iX11_breathBy_10 (iX11_breathBy_11 (fun _ => (iX11_breathBy_26 (iX11_breathBy_27 ?_))) (fun h => False.elim (by revert h; decide)))))) (fun h => False.elim (by revert h; decide))))
    exact iX11_breathBy_31 h
  | 3, _, h =>
    refine iX11_breathBy_0 (iX11_breathBy_1 (iX11_breathBy_2 (fun _ => (iX11_breathBy_9 (iX11_breathBy_10 (iX11_breathBy_11 (fun h => False.elim (by revert h; decide)) (fun _ => (iX11_breathBy_14 (iX11_breathBy_15 (iX11_breathBy_16 (fun _ => (iX11_breathBy_30 ?_)) (fun h => False.elim (by revert h; decide)))))))))) (fun h => False.elim (by revert h; decide))))
    exact iX11_breathBy_31 h
  | 4, _, h =>
    refine iX11_breathBy_0 (iX11_breathBy_1 (iX11_breathBy_2 (fun _ => (iX11_breathBy_9 (iX11_breathBy_10 (iX11_breathBy_11 (fun h => False.elim (by revert h; decide)) (fun _ => (iX11_breathBy_14 (iX11_breathBy_15 (iX11_breathBy_16 (fun h => False.elim (by revert h; decide)) (fun _ => (iX11_breathBy_19 (iX11_breathBy_20 (iX11_breathBy_21 (by decide) (iX11_breathBy_22 ?_))))))))))))) (fun h => False.elim (by revert h; decide))))
    refine iX11_breathBy_23 (fun q => ?_) (fun q => ?_)
    · have h : Q (0 + (if rem2 t = 0 then 0 else 1)) ws := h
      rw [if_pos (rem2_n1 ht q)] at h
      refine iX11_breathBy_30 ?_
      exact iX11_breathBy_31 h
    · have h : Q (0 + (if rem2 t = 0 then 0 else 1)) ws := h
      rw [if_neg (rem2_n0 q)] at h
      refine iX11_breathBy_26 (iX11_breathBy_27 ?_)
      exact iX11_breathBy_31 h
  | 5, _, h =>
    refine iX11_breathBy_0 (iX11_breathBy_1 (iX11_breathBy_2 (fun h => False.elim (by revert h; decide)) (fun _ => (iX11_breathBy_5 (iX11_breathBy_6 ?_)))))
    exact iX11_breathBy_31 h
  | i + 6, hi, _ => exact absurd hi (by omega)
theorem M_votesOf (r : Rl c R n d p u k) (ht : 0 ≤ t) (h : Q (l_sum (bVot c.2 x t) k) (mW R T K D s)) : CallI kX11_votesOf [.ref 16, .int x, .int t] (mW R T K D s) Q := by
  refine e_X11_votesOf ?_
  have hk := r.ok.2.1.2.2.2
  have hk6 := hk.1
  refine iX11_votesOf_0 (iX11_votesOf_1 rfl (iX11_votesOf_2 (iX11_votesOf_3 rfl ?_)))
  refine dn k (P := fun i => V kX11_votesOf 5 [some (.ref 16), some (.int x), some (.int t), some (.int (l_sum (bVot c.2 x t) i)), some (.int (nI i))] [] (mW R T K D s) 0 0 (qI Q)) ?_ 0 (Nat.zero_le _)
  intro i hi ih
  refine iX11_votesOf_5 (iX11_votesOf_7 (iX11_votesOf_8 rfl rfl (iX11_votesOf_11 (iX11_votesOf_13 (j := 63) rfl rfl (by decide) (by decide) ?_))))
  rw [r.e63, r.ok.2.1.2.2.1]
  refine iX11_votesOf_14 (fun q => ?_) (fun q => ?_)
  · have e := eq_of hi (by omega) q
    subst e
    refine iX11_votesOf_74 ?_
    exact iX11_votesOf_75 h
  · have hlt := nlt_of (by omega) q
    have ih := ih hlt
    obtain ⟨v, hv, ev⟩ := hk.2 i hlt
    have e1 : nI i + 1 = nI (i + 1) := nI_1 i
    have e2 : l_sum (bVot c.2 x t) (i + 1) = l_sum (bVot c.2 x t) i + bVot c.2 x t i := rfl
    have fin : ∀ v, v = bVot c.2 x t i → V kX11_votesOf 66 [some (.ref 16), some (.int x), some (.int t), some (.int (l_sum (bVot c.2 x t) i)), some (.int (nI i))] [.int v, .int (l_sum (bVot c.2 x t) i)] (mW R T K D s) 0 0 (qI Q) := by
      intro v hv
      subst hv
      refine iX11_votesOf_66 (iX11_votesOf_67 rfl (iX11_votesOf_68 rfl (iX11_votesOf_71 ?_)))
      rw [e1]
      exact ih
    refine iX11_votesOf_17 (iX11_votesOf_18 (iX11_votesOf_19 rfl rfl (iX11_votesOf_22 (iX11_votesOf_24 (iX11_votesOf_25 (iX11_votesOf_27 (iX11_votesOf_28 (iX11_votesOf_29 (iX11_votesOf_30 (iX11_votesOf_31 rfl (ix3 64 4 i 1) (by omega) (by decide) (iX11_votesOf_32 ?_)))))))))))
    rw [r.m1 i hlt]
    refine iX11_votesOf_33 (fun q2 => ?_) (fun q2 => ?_)
    · have e3 : bVot c.2 x t i = 0 := by unfold bVot; rw [if_neg (fun z => q2 z.1)]
      refine iX11_votesOf_65 ?_
      exact fin _ e3.symm
    · refine iX11_votesOf_36 (iX11_votesOf_37 (iX11_votesOf_39 ?_))
      refine iX11_votesOf_40 rfl (Nat.le_of_ble_eq_true rfl) (M_isIn r hlt (fun q3 => ?_) (fun q3 => ?_))
      · have e3 : bVot c.2 x t i = kVot v t := by
          unfold bVot
          rw [if_pos ⟨q2, q3⟩, ev, nI_clamp (by omega)]
        refine iX11_votesOf_43 (fun h => False.elim (by revert h; decide)) (fun _ => (iX11_votesOf_46 (iX11_votesOf_47 rfl rfl (iX11_votesOf_50 (iX11_votesOf_52 (iX11_votesOf_53 (iX11_votesOf_55 (iX11_votesOf_56 (iX11_votesOf_57 rfl (ix2 64 4 i) (by omega) (by decide) (iX11_votesOf_58 ?_))))))))))
        rw [r.m0 i hlt, ev]
        refine iX11_votesOf_59 (Nat.le_of_ble_eq_true rfl) (M_votesBy ht hv (iX11_votesOf_62 ?_))
        exact fin _ e3.symm
      · have e3 : bVot c.2 x t i = 0 := by unfold bVot; rw [if_neg (fun z => q3 z.2)]
        refine iX11_votesOf_43 (fun _ => (iX11_votesOf_65 ?_)) (fun h => False.elim (by revert h; decide))
        exact fin _ e3.symm
theorem M_houseIn (r : Rl c R n d p u k) (ht : 0 ≤ t) (h : Q (hs c k t) (mW R T K D s)) : CallI kX11_houseIn [.ref 16, .int t] (mW R T K D s) Q := by
  refine e_X11_houseIn ?_
  refine iX11_houseIn_0 (iX11_houseIn_1 rfl (iX11_houseIn_2 (iX11_houseIn_3 rfl (iX11_houseIn_4 (iX11_houseIn_5 rfl ?_)))))
  have key : ∀ i, i ≤ 3 → ∀ x5, V kX11_houseIn 7 [some (.ref 16), some (.int t), some (.int (bBest c.2 k t i).1), some (.int (bBest c.2 k t i).2), some (.int (nI i)), x5] [] (mW R T K D s) 0 0 (qI Q) := by
    refine dn 3 ?_
    intro i hi ih x5
    refine iX11_houseIn_7 (iX11_houseIn_9 ?_)
    refine iX11_houseIn_10 (fun q => ?_) (fun q => ?_)
    · have e := eq_of (k := 3) hi (by omega) q
      subst e
      refine iX11_houseIn_54 ?_
      exact iX11_houseIn_55 h
    · have hlt := nlt_of (k := 3) (by omega) q
      have ih := ih hlt (some (.int (bSum c.2 k t i)))
      have e1 : nI i + 1 = nI (i + 1) := nI_1 i
      have e2 : bBest c.2 k t (i + 1) = if bSum c.2 k t i ≤ (bBest c.2 k t i).2 then bBest c.2 k t i else (nI i, bSum c.2 k t i) := rfl
      refine iX11_houseIn_13 (iX11_houseIn_14 (iX11_houseIn_16 (iX11_houseIn_17 rfl (Nat.le_of_ble_eq_true rfl) (M_votesOf r ht (iX11_houseIn_20 rfl (iX11_houseIn_22 (iX11_houseIn_24 ?_)))))))
      refine iX11_houseIn_25 (fun q2 => ?_) (fun q2 => ?_)
      · have q2 : bSum c.2 k t i ≤ (bBest c.2 k t i).2 := q2
        rw [if_pos q2] at e2
        rw [e2] at ih
        refine iX11_houseIn_33 (iX11_houseIn_34 rfl (iX11_houseIn_35 (iX11_houseIn_37 (iX11_houseIn_38 (fun _ => (iX11_houseIn_46 (iX11_houseIn_47 rfl (iX11_houseIn_48 rfl (iX11_houseIn_51 ?_))))) (fun h => False.elim (by exact h q2))))))
        rw [e1]
        exact ih
      · have q2 : ¬ bSum c.2 k t i ≤ (bBest c.2 k t i).2 := q2
        rw [if_neg q2] at e2
        rw [e2] at ih
        refine iX11_houseIn_28 (iX11_houseIn_30 (iX11_houseIn_34 rfl (iX11_houseIn_35 (iX11_houseIn_37 (iX11_houseIn_38 (fun h => False.elim (by exact q2 h)) (fun _ => (iX11_houseIn_41 (iX11_houseIn_43 (iX11_houseIn_47 rfl (iX11_houseIn_48 rfl (iX11_houseIn_51 ?_)))))))))))
        rw [e1]
        exact ih
  exact key 0 (by omega) none
end Mod2
