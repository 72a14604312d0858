theorem i32_nlt {a b : Int32} (h : ¬ a < b) : b ≤ a := Int32.not_lt.mp h
theorem i32_nle {a b : Int32} (h : ¬ a ≤ b) : b < a := Int32.not_le.mp h
theorem i32_ltn {a b : Int32} (h : a < b) : ¬ b ≤ a := fun h2 => Int32.lt_irrefl (Int32.lt_of_lt_of_le h h2)
theorem i32_len {a b : Int32} (h : a ≤ b) : ¬ b < a := fun h2 => Int32.lt_irrefl (Int32.lt_of_le_of_lt h h2)
/-! the small questions of the class -/
theorem S_within {v lo hi : Int32} {ws : Wd} {Q : Int32 → Wd → Prop} (h1 : lo ≤ v → v ≤ hi → Q 1 ws) (h0 : ¬ (lo ≤ v ∧ v ≤ hi) → Q 0 ws) : CallI kX10_within [.int v, .int lo, .int hi] ws Q := by
  refine e_X10_within ?_
  refine iX10_within_0 (iX10_within_1 ?_)
  refine iX10_within_2 (fun h => ?_) (fun h => ?_)
  · refine iX10_within_14 ?_
    exact iX10_within_15 rfl (h0 (fun g => i32_len g.1 h))
  · refine iX10_within_5 (iX10_within_6 ?_)
    refine iX10_within_7 (fun g => ?_) (fun g => ?_)
    · refine iX10_within_14 ?_
      exact iX10_within_15 rfl (h0 (fun q => i32_len q.2 g))
    · refine iX10_within_10 (iX10_within_11 ?_)
      exact iX10_within_15 rfl (h1 (i32_nlt h) (i32_nlt g))
theorem S_isMinute {v : Int32} {ws : Wd} {Q : Int32 → Wd → Prop} (h1 : 0 ≤ v → v ≤ 299 → Q 1 ws) (h0 : ¬ (0 ≤ v ∧ v ≤ 299) → Q 0 ws) : CallI kX10_isMinute [.int v] ws Q := by
  refine e_X10_isMinute ?_
  refine iX10_isMinute_0 (iX10_isMinute_1 (iX10_isMinute_2 ?_))
  refine iX10_isMinute_5 (Nat.le_of_ble_eq_true rfl) (S_within (fun a b => ?_) (fun a => ?_))
  · exact iX10_isMinute_8 rfl (h1 a b)
  · exact iX10_isMinute_8 rfl (h0 a)
theorem S_isParty {v : Int32} {ws : Wd} {Q : Int32 → Wd → Prop} (h1 : 0 ≤ v → v ≤ 2 → Q 1 ws) (h0 : ¬ (0 ≤ v ∧ v ≤ 2) → Q 0 ws) : CallI kX10_isParty [.int v] ws Q := by
  refine e_X10_isParty ?_
  refine iX10_isParty_0 (iX10_isParty_1 (iX10_isParty_2 ?_))
  refine iX10_isParty_3 (Nat.le_of_ble_eq_true rfl) (S_within (fun a b => ?_) (fun a => ?_))
  · exact iX10_isParty_6 rfl (h1 a b)
  · exact iX10_isParty_6 rfl (h0 a)
/-! kinds: votes and breath in a minute -/
abbrev rem2 (m : Int32) : Int32 := m - m / 2 * 2
def kVot (k : Nat) (m : Int32) : Int32 := match k with
  | 0 => 1
  | 1 => if rem2 m = 0 then 1 else 0
  | 2 => 1
  | 3 => 1 + 1
  | 4 => if rem2 m = 0 then 1 else 0
  | _ => 3 * 1
def kBre (k : Nat) (m : Int32) : Int32 := match k with
  | 0 => 0
  | 1 => 0
  | 2 => 1
  | 3 => 0
  | 4 => 0 + (if rem2 m = 0 then 0 else 1)
  | _ => 2 * 1
section Kinds
variable {m : Int32} {ws : Wd} {Q : Int32 → Wd → Prop} {r : Nat}
theorem S_v5 (h : Q 1 ws) : CallI kX5_votesIn [.ref r, .int m] ws Q := by
  refine e_X5_votesIn ?_
  refine iX5_votesIn_0 ?_
  exact iX5_votesIn_1 h
theorem S_b5 (h : Q 0 ws) : CallI kX5_breathIn [.ref r, .int m] ws Q := by
  refine e_X5_breathIn ?_
  refine iX5_breathIn_0 ?_
  exact iX5_breathIn_1 h
theorem S_b2 (h : Q 1 ws) : CallI kX2_breathIn [.ref r, .int m] ws Q := by
  refine e_X2_breathIn ?_
  refine iX2_breathIn_0 ?_
  exact iX2_breathIn_1 h
end Kinds
section Kinds2
variable {m : Int32} {ws : Wd} {Q : Int32 → Wd → Prop} {r : Nat} {fs : List Value}
theorem S_v7 (hr : ws[r]? = some (ob 7 fs)) (h : Q (if rem2 m = 0 then 1 else 0) ws) : CallI kX7_votesIn [.ref (r + 16), .int m] ws Q := by
  refine e_X7_votesIn ?_
  refine iX7_votesIn_0 (iX7_votesIn_1 (iX7_votesIn_2 (by decide) ?_))
  refine iX7_votesIn_3 (fun g => ?_) (fun g => ?_)
  · refine iX7_votesIn_14 ?_
    exact iX7_votesIn_15 (by rw [if_neg g] at h; exact h)
  · refine iX7_votesIn_6 (iX7_votesIn_7 (iX7_votesIn_8 hr (Nat.le_of_ble_eq_true rfl) (S_v5 (iX7_votesIn_11 ?_))))
    exact iX7_votesIn_15 (by rw [if_pos g] at h; exact h)
theorem S_v8 (hr : ws[r]? = some (ob 8 fs)) (h : Q (if rem2 m = 0 then 1 else 0) ws) : CallI kX7_votesIn [.ref (r + 16), .int m] ws Q := by
  refine e_X7_votesIn ?_
  refine iX7_votesIn_0 (iX7_votesIn_1 (iX7_votesIn_2 (by decide) ?_))
  refine iX7_votesIn_3 (fun g => ?_) (fun g => ?_)
  · refine iX7_votesIn_14 ?_
    exact iX7_votesIn_15 (by rw [if_neg g] at h; exact h)
  · refine iX7_votesIn_6 (iX7_votesIn_7 (iX7_votesIn_8_X8 hr (Nat.le_of_ble_eq_true rfl) (S_v5 (iX7_votesIn_11 ?_))))
    exact iX7_votesIn_15 (by rw [if_pos g] at h; exact h)
theorem S_v9 (hr : ws[r]? = some (ob 9 fs)) (h : Q (1 + 1) ws) : CallI kX9_votesIn [.ref (r + 16), .int m] ws Q := by
  refine e_X9_votesIn ?_
  refine iX9_votesIn_0 (iX9_votesIn_1 (iX9_votesIn_2 hr (Nat.le_of_ble_eq_true rfl) (S_v5 (iX9_votesIn_5 (iX9_votesIn_6 ?_)))))
  exact iX9_votesIn_7 h
theorem S_b8 (hr : ws[r]? = some (ob 8 fs)) (h : Q (0 + (if rem2 m = 0 then 0 else 1)) ws) : CallI kX8_breathIn [.ref (r + 16), .int m] ws Q := by
  refine e_X8_breathIn ?_
  refine iX8_breathIn_0 (iX8_breathIn_1 (iX8_breathIn_2 hr (Nat.le_of_ble_eq_true rfl) (S_b5 (iX8_breathIn_5 (iX8_breathIn_6 (iX8_breathIn_7 (by decide) ?_))))))
  refine iX8_breathIn_8 (fun g => ?_) (fun g => ?_)
  · refine iX8_breathIn_15 (iX8_breathIn_16 ?_)
    exact iX8_breathIn_17 (by rw [if_neg g] at h; exact h)
  · refine iX8_breathIn_11 (iX8_breathIn_12 (iX8_breathIn_16 ?_))
    exact iX8_breathIn_17 (by rw [if_pos g] at h; exact h)
theorem S_v4 (hr : ws[r]? = some (ob 4 fs)) (h : Q (3 * 1) ws) : CallI kX4_votesIn [.ref (r + 16), .int m] ws Q := by
  refine e_X4_votesIn ?_
  refine iX4_votesIn_0 (iX4_votesIn_1 (iX4_votesIn_2 (iX4_votesIn_3 hr (Nat.le_of_ble_eq_true rfl) (S_v5 (iX4_votesIn_6 ?_)))))
  exact iX4_votesIn_7 h
theorem S_b4 (hr : ws[r]? = some (ob 4 fs)) (h : Q (2 * 1) ws) : CallI kX4_breathIn [.ref (r + 16), .int m] ws Q := by
  refine e_X4_breathIn ?_
  refine iX4_breathIn_0 (iX4_breathIn_1 (iX4_breathIn_2 (iX4_breathIn_3 hr (Nat.le_of_ble_eq_true rfl) (S_b2 (iX4_breathIn_6 ?_)))))
  exact iX4_breathIn_7 h
end Kinds2
/-! Benches -/
def bnW (m : Int32) (a : Nat → Nat → Int32) : Wd := [ob 0 [.ref 21, .ref 17, .ref 18, .ref 19, .ref 20, .int m], ia 0 6 (a 7), ia 0 6 (a 8), ia 0 6 (a 9), ia 0 6 (a 10), ra 3 [some 22, some 23, some 24, some 25, some 26, some 27], ob 5 [], ob 7 [], ob 2 [], ob 9 [], ob 8 [], ob 4 []]
/-- in then -/
def bIn (a : Nat → Nat → Int32) (i : Nat) (t : Int32) : Prop := a 9 i ≤ t ∧ t < a 10 i
theorem bIn_dec (a : Nat → Nat → Int32) (i : Nat) (t : Int32) : bIn a i t ∨ ¬ bIn a i t := Classical.em _
noncomputable def bVot (a : Nat → Nat → Int32) (p t : Int32) (i : Nat) : Int32 := by
  classical
  exact if a 8 i = p ∧ bIn a i t then kVot (a 7 i).toNatClampNeg t else 0
noncomputable def bBre (a : Nat → Nat → Int32) (t : Int32) (i : Nat) : Int32 := by
  classical
  exact if bIn a i t then kBre (a 7 i).toNatClampNeg t else 0
/-- the kinds are kinds -/
def kOk (a : Nat → Nat → Int32) (k : Nat) : Prop := k ≤ 6 ∧ ∀ i, i < k → ∃ x, x < 6 ∧ a 7 i = nI x
section Benches
variable {m : Int32} {a : Nat → Nat → Int32} {k : Nat} {t p : Int32} {Q : Int32 → Wd → Prop}
theorem S_isInside {i : Nat} (hi : i < 6) (h1 : bIn a i t → Q 1 (bnW m a)) (h0 : ¬ bIn a i t → Q 0 (bnW m a)) : CallI kX0_isInside [.ref 16, .int (nI i), .int t] (bnW m a) Q := by
  refine e_X0_isInside ?_
  refine iX0_isInside_0 (iX0_isInside_1 rfl rfl (iX0_isInside_4 (iX0_isInside_5 rfl rfl (by omega) (by decide) (iX0_isInside_6 ?_))))
  refine iX0_isInside_7 (fun g => ?_) (fun g => ?_)
  · refine iX0_isInside_24 ?_
    exact iX0_isInside_25 rfl (h0 (fun q => i32_len q.1 g))
  · refine iX0_isInside_10 (iX0_isInside_11 (iX0_isInside_12 rfl rfl (iX0_isInside_15 (iX0_isInside_16 rfl rfl (by omega) (by decide) ?_))))
    refine iX0_isInside_17 (fun q => ?_) (fun q => ?_)
    · refine iX0_isInside_24 ?_
      exact iX0_isInside_25 rfl (h0 (fun z => i32_len q z.2))
    · refine iX0_isInside_20 (iX0_isInside_21 ?_)
      exact iX0_isInside_25 rfl (h1 ⟨i32_nlt g, i32_nle q⟩)
theorem S_bvotesOf (hk : kOk a k) (hm : m = nI k) (h : Q (l_sum (bVot a p t) k) (bnW m a)) : CallI kX0_votesOf [.ref 16, .int p, .int t] (bnW m a) Q := by
  subst hm
  refine e_X0_votesOf ?_
  refine iX0_votesOf_0 (iX0_votesOf_1 rfl (iX0_votesOf_2 (iX0_votesOf_3 rfl ?_)))
  have hk6 := hk.1
  refine dn k (P := fun i => V kX0_votesOf 5 [some (.ref 16), some (.int p), some (.int t), some (.int (l_sum (bVot a p t) i)), some (.int (nI i))] [] (bnW (nI k) a) 0 0 (qI Q)) ?_ 0 (Nat.zero_le _)
  intro i hi ih
  refine iX0_votesOf_5 (iX0_votesOf_7 (iX0_votesOf_8 rfl rfl ?_))
  refine iX0_votesOf_11 (fun g => ?_) (fun g => ?_)
  · have e : i = k := by
      have := (nI_leI (by omega) (by omega)).mp g
      omega
    subst e
    refine iX0_votesOf_60 ?_
    exact iX0_votesOf_61 h
  · have hlt : i < k := by
      rcases Nat.lt_or_ge i k with q | q
      · exact q
      · exact absurd (nI_le q (by omega)) g
    have ih := ih hlt
    obtain ⟨x, hx, ex⟩ := hk.2 i hlt
    have e1 : nI i + 1 = nI (i + 1) := nI_1 i
    have e2 : l_sum (bVot a p t) (i + 1) = l_sum (bVot a p t) i + bVot a p t i := rfl
    refine iX0_votesOf_14 (iX0_votesOf_15 rfl rfl (iX0_votesOf_18 (iX0_votesOf_20 rfl rfl (by omega) (by decide) (iX0_votesOf_21 ?_))))
    refine iX0_votesOf_22 (fun g2 => ?_) (fun g2 => ?_)
    · have e3 : bVot a p t i = 0 := by unfold bVot; rw [if_neg (fun z => g2 z.1)]
      refine iX0_votesOf_54 rfl (iX0_votesOf_57 ?_)
      rw [e1]
      rw [e2, e3, Int32.add_zero] at ih
      exact ih
    · refine iX0_votesOf_25 (iX0_votesOf_26 (iX0_votesOf_28 (iX0_votesOf_29 rfl (Nat.le_of_ble_eq_true rfl) (S_isInside (by omega) (fun g3 => ?_) (fun g3 => ?_)))))
      · have e3 : bVot a p t i = kVot x t := by
          unfold bVot
          rw [if_pos ⟨g2, g3⟩, ex, nI_clamp (by omega)]
        rw [e2, e3] at ih
        have fin : ∀ v, v = kVot x t → V kX0_votesOf 52 [some (.ref 16), some (.int p), some (.int t), some (.int (l_sum (bVot a p t) i)), some (.int (nI i))] [.int v, .int (l_sum (bVot a p t) i)] (bnW (nI k) a) 0 0 (qI Q) := by
          intro v hv
          subst hv
          refine iX0_votesOf_52 (iX0_votesOf_53 rfl (iX0_votesOf_54 rfl (iX0_votesOf_57 ?_)))
          rw [e1]
          exact ih
        refine iX0_votesOf_32 (fun h => False.elim (by revert h; decide)) (fun _ => (iX0_votesOf_35 (iX0_votesOf_36 (iX0_votesOf_37 rfl rfl (iX0_votesOf_40 (iX0_votesOf_41 rfl rfl (iX0_votesOf_44 (iX0_votesOf_46 rfl rfl (by omega) (by decide) ?_))))))))
        rw [ex]
        match x, hx, fin with
        | 0, _, fin => exact iX0_votesOf_47 rfl rfl (by decide) (by decide) rfl (iX0_votesOf_48 (iX0_votesOf_49_X5 rfl (Nat.le_of_ble_eq_true rfl) (S_v5 (fin _ rfl))))
        | 1, _, fin => exact iX0_votesOf_47 rfl rfl (by decide) (by decide) rfl (iX0_votesOf_48 (iX0_votesOf_49_X7 (r := 7) rfl (Nat.le_of_ble_eq_true rfl) (S_v7 (r := 7) rfl (fin _ rfl))))
        | 2, _, fin => exact iX0_votesOf_47 rfl rfl (by decide) (by decide) rfl (iX0_votesOf_48 (iX0_votesOf_49_X2 rfl (Nat.le_of_ble_eq_true rfl) (S_v5 (fin _ rfl))))
        | 3, _, fin => exact iX0_votesOf_47 rfl rfl (by decide) (by decide) rfl (iX0_votesOf_48 (iX0_votesOf_49_X9 (r := 9) rfl (Nat.le_of_ble_eq_true rfl) (S_v9 (r := 9) rfl (fin _ rfl))))
        | 4, _, fin => exact iX0_votesOf_47 rfl rfl (by decide) (by decide) rfl (iX0_votesOf_48 (iX0_votesOf_49_X8 (r := 10) rfl (Nat.le_of_ble_eq_true rfl) (S_v8 (r := 10) rfl (fin _ rfl))))
        | 5, _, fin => exact iX0_votesOf_47 rfl rfl (by decide) (by decide) rfl (iX0_votesOf_48 (iX0_votesOf_49_X4 (r := 11) rfl (Nat.le_of_ble_eq_true rfl) (S_v4 (r := 11) rfl (fin _ rfl))))
        | x + 6, hx, _ => exact absurd hx (by omega)
      · have e3 : bVot a p t i = 0 := by unfold bVot; rw [if_neg (fun z => g3 z.2)]
        refine iX0_votesOf_32 (fun _ => (iX0_votesOf_54 rfl (iX0_votesOf_57 ?_))) (fun h => False.elim (by revert h; decide))
        rw [e1]
        rw [e2, e3, Int32.add_zero] at ih
        exact ih
end Benches
