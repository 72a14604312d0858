/-! the reference: its world, and what ties it to the chamber -/
def mW (R T K D s : Nat → Int32) : Wd := [ob 11 [.ref 17, .ref 18, .int (s 0), .ref 19, .int (s 1), .int (s 2), .int (s 3), .int (s 4), .int (s 5), .int (s 6), .int (s 7), .ref 20, .int (s 8)], ia 0 452 R, ia 0 150 T, ia 2 2 K, ia 0 150 D]
def Rl (c : Ch) (R : Nat → Int32) (n d p u k : Nat) : Prop := (COk c n d p u k) ∧ (R 0 = c.1 0) ∧ (R 1 = c.1 1) ∧ (R 2 = c.1 3) ∧ (R 3 = c.1 2) ∧ (R 24 = c.1 4) ∧ (R 35 = c.1 6) ∧ (R 63 = c.1 8) ∧ (R 88 = c.1 7) ∧ (∀ i, i < n → R (4 + i) = c.2 0 i) ∧ (∀ i, i < d → R (25 + 2 * i) = c.2 1 i) ∧ (∀ i, i < d → R (25 + 2 * i + 1) = if bitOn (c.1 5) i then 1 else 0) ∧ (∀ i, i < p → R (36 + 3 * i) = c.2 2 i) ∧ (∀ i, i < p → R (36 + 3 * i + 1) = c.2 3 i) ∧ (∀ i, i < p → R (36 + 3 * i + 2) = c.2 4 i) ∧ (∀ i, i < k → R (64 + 4 * i) = c.2 7 i) ∧ (∀ i, i < k → R (64 + 4 * i + 1) = c.2 8 i) ∧ (∀ i, i < k → R (64 + 4 * i + 2) = c.2 9 i) ∧ (∀ i, i < k → R (64 + 4 * i + 3) = c.2 10 i) ∧ (∀ i, i < u → R (89 + 2 * i) = c.2 5 i) ∧ (∀ i, i < u → R (89 + 2 * i + 1) = c.2 6 i)
section RlP
variable {c : Ch} {R : Nat → Int32} {n d p u k : Nat}
theorem Rl.ok (r : Rl c R n d p u k) : COk c n d p u k := r.1
theorem Rl.e0 (r : Rl c R n d p u k) : R 0 = c.1 0 := r.2.1
theorem Rl.e1 (r : Rl c R n d p u k) : R 1 = c.1 1 := r.2.2.1
theorem Rl.e2 (r : Rl c R n d p u k) : R 2 = c.1 3 := r.2.2.2.1
theorem Rl.e3 (r : Rl c R n d p u k) : R 3 = c.1 2 := r.2.2.2.2.1
theorem Rl.e24 (r : Rl c R n d p u k) : R 24 = c.1 4 := r.2.2.2.2.2.1
theorem Rl.e35 (r : Rl c R n d p u k) : R 35 = c.1 6 := r.2.2.2.2.2.2.1
theorem Rl.e63 (r : Rl c R n d p u k) : R 63 = c.1 8 := r.2.2.2.2.2.2.2.1
theorem Rl.e88 (r : Rl c R n d p u k) : R 88 = c.1 7 := r.2.2.2.2.2.2.2.2.1
theorem Rl.th (r : Rl c R n d p u k) : ∀ i, i < n → R (4 + i) = c.2 0 i := r.2.2.2.2.2.2.2.2.2.1
theorem Rl.dr (r : Rl c R n d p u k) : ∀ i, i < d → R (25 + 2 * i) = c.2 1 i := r.2.2.2.2.2.2.2.2.2.2.1
theorem Rl.fl (r : Rl c R n d p u k) : ∀ i, i < d → R (25 + 2 * i + 1) = if bitOn (c.1 5) i then 1 else 0 := r.2.2.2.2.2.2.2.2.2.2.2.1
theorem Rl.p0 (r : Rl c R n d p u k) : ∀ i, i < p → R (36 + 3 * i) = c.2 2 i := r.2.2.2.2.2.2.2.2.2.2.2.2.1
theorem Rl.p1 (r : Rl c R n d p u k) : ∀ i, i < p → R (36 + 3 * i + 1) = c.2 3 i := r.2.2.2.2.2.2.2.2.2.2.2.2.2.1
theorem Rl.p2 (r : Rl c R n d p u k) : ∀ i, i < p → R (36 + 3 * i + 2) = c.2 4 i := r.2.2.2.2.2.2.2.2.2.2.2.2.2.2.1
theorem Rl.m0 (r : Rl c R n d p u k) : ∀ i, i < k → R (64 + 4 * i) = c.2 7 i := r.2.2.2.2.2.2.2.2.2.2.2.2.2.2.2.1
theorem Rl.m1 (r : Rl c R n d p u k) : ∀ i, i < k → R (64 + 4 * i + 1) = c.2 8 i := r.2.2.2.2.2.2.2.2.2.2.2.2.2.2.2.2.1
theorem Rl.m2 (r : Rl c R n d p u k) : ∀ i, i < k → R (64 + 4 * i + 2) = c.2 9 i := r.2.2.2.2.2.2.2.2.2.2.2.2.2.2.2.2.2.1
theorem Rl.m3 (r : Rl c R n d p u k) : ∀ i, i < k → R (64 + 4 * i + 3) = c.2 10 i := r.2.2.2.2.2.2.2.2.2.2.2.2.2.2.2.2.2.2.1
theorem Rl.a5 (r : Rl c R n d p u k) : ∀ i, i < u → R (89 + 2 * i) = c.2 5 i := r.2.2.2.2.2.2.2.2.2.2.2.2.2.2.2.2.2.2.2.1
theorem Rl.a6 (r : Rl c R n d p u k) : ∀ i, i < u → R (89 + 2 * i + 1) = c.2 6 i := r.2.2.2.2.2.2.2.2.2.2.2.2.2.2.2.2.2.2.2.2
end RlP
theorem nI_mul (a b : Nat) : nI a * nI b = nI (a * b) := by
  unfold nI
  exact (Int32.ofNat_mul a b).symm
theorem ix2 (a b i : Nat) : nI a + nI b * nI i = nI (a + b * i) := by rw [nI_mul, nI_add]
theorem ix3 (a b i c : Nat) : nI a + nI b * nI i + nI c = nI (a + b * i + c) := by rw [nI_mul, nI_add, nI_add]
theorem lg_lt (x y : Int64) : lg_cmp x y < 0 ↔ x < y := by
  unfold lg_cmp
  constructor
  · intro h
    split at h
    · exact absurd h (by decide)
    · split at h
      · exact absurd h (by decide)
      · rename_i g e
        exact Int64.lt_of_le_of_ne (Int64.not_lt.mp g) e
  · intro h
    have g : ¬ x > y := fun q => Int64.lt_irrefl (Int64.lt_trans h q)
    have e : ¬ x = y := fun q => by rw [q] at h; exact Int64.lt_irrefl h
    rw [if_neg g, if_neg e]
    decide
theorem lg_gt (x y : Int64) : 0 < lg_cmp x y ↔ y < x := by
  unfold lg_cmp
  constructor
  · intro h
    split at h
    · assumption
    · split at h
      · exact absurd h (by decide)
      · exact absurd h (by decide)
  · intro h
    rw [if_pos h]
    decide
theorem i64_lt {a b : Int32} : a.toInt64 < b.toInt64 ↔ a < b := by
  rw [Int64.lt_iff_toInt_lt, Int32.lt_iff_toInt_lt, Int32.toInt_toInt64, Int32.toInt_toInt64]
def bump (s : Nat → Int32) (i : Nat) : Nat → Int32 := if s 4 = 0 then upd s i (s i + 1) else s
theorem upd_self (s : Nat → Int32) (i : Nat) : upd s i (s i) = s := by
  funext j
  unfold upd
  by_cases h : j = i
  · rw [if_pos h, h]
  · rw [if_neg h]
section Mod
variable {c : Ch} {R T K D s : Nat → Int32} {n d p u k i : Nat} {x y z t w : Int32} {ws : Wd} {Q : Int32 → Wd → Prop}
theorem S_in {v lo hi : Int32} {l h : Int64} (hl : l = lo.toInt64) (hh : h = hi.toInt64) (h1 : lo ≤ v → v ≤ hi → Q 1 ws) (h0 : ¬ (lo ≤ v ∧ v ≤ hi) → Q 0 ws) : CallI kX11_in [.long v.toInt64, .long l, .long h] ws Q := by
  subst hl
  subst hh
  refine e_X11_in ?_
  refine iX11_in_0 (iX11_in_1 (iX11_in_2 ?_))
  refine iX11_in_3 (fun g => ?_) (fun g => ?_)
  · refine iX11_in_17 ?_
    exact iX11_in_18 rfl (h0 (fun q => i32_len q.1 (i64_lt.mp ((lg_lt _ _).mp g))))
  · refine iX11_in_6 (iX11_in_7 (iX11_in_9 ?_))
    refine iX11_in_10 (fun g2 => ?_) (fun g2 => ?_)
    · refine iX11_in_17 ?_
      exact iX11_in_18 rfl (h0 (fun q => i32_len q.2 (i64_lt.mp ((lg_gt _ _).mp g2))))
    · refine iX11_in_13 (iX11_in_14 ?_)
      exact iX11_in_18 rfl (h1 (i32_nlt (fun q => g ((lg_lt _ _).mpr (i64_lt.mpr q)))) (i32_nlt (fun q => g2 ((lg_gt _ _).mpr (i64_lt.mpr q)))))
theorem M_has (h1 : bitOn w i → Q 1 ws) (h0 : ¬ bitOn w i → Q 0 ws) : CallI kX11_has [.int w, .int (nI i)] ws Q := by
  refine e_X11_has ?_
  refine iX11_has_0 (iX11_has_1 (iX11_has_2 (iX11_has_3 (iX11_has_4 (iX11_has_5 ?_)))))
  refine iX11_has_6 (fun g => ?_) (fun g => ?_)
  · refine iX11_has_13 ?_
    exact iX11_has_14 rfl (h0 g)
  · refine iX11_has_9 (iX11_has_10 ?_)
    exact iX11_has_14 rfl (h1 g)
theorem M_isBad (h : Q x (mW R T K D (bump s 1))) : CallI kX11_isBad [.ref 16, .int x] (mW R T K D s) Q := by
  refine e_X11_isBad ?_
  unfold bump at h
  refine iX11_isBad_0 (iX11_isBad_1 rfl (iX11_isBad_2 rfl rfl (iX11_isBad_5 (iX11_isBad_6 rfl rfl ?_))))
  refine iX11_isBad_9 (fun g => ?_) (fun g => ?_)
  · rw [if_pos g] at h
    refine iX11_isBad_16 (iX11_isBad_17 (iX11_isBad_18 rfl (Nat.le_of_ble_eq_true rfl) (iX11_isBad_21 ?_)))
    exact iX11_isBad_22 h
  · rw [if_neg g] at h
    refine iX11_isBad_12 (iX11_isBad_13 (iX11_isBad_17 ?_))
    rw [Int32.add_zero]
    refine iX11_isBad_18 rfl (Nat.le_of_ble_eq_true rfl) (iX11_isBad_21 ?_)
    have e : mW R T K D (upd s 1 (s 1)) = mW R T K D s := by rw [upd_self]
    rw [← e] at h
    exact iX11_isBad_22 h
theorem M_isNo (h : Q (-3) (mW R T K D (bump s 2))) : CallI kX11_isNo [.ref 16] (mW R T K D s) Q := by
  refine e_X11_isNo ?_
  unfold bump at h
  refine iX11_isNo_0 (iX11_isNo_1 rfl (iX11_isNo_2 rfl rfl (iX11_isNo_5 (iX11_isNo_6 rfl rfl ?_))))
  refine iX11_isNo_9 (fun g => ?_) (fun g => ?_)
  · rw [if_pos g] at h
    refine iX11_isNo_16 (iX11_isNo_17 (iX11_isNo_18 rfl (Nat.le_of_ble_eq_true rfl) (iX11_isNo_21 ?_)))
    exact iX11_isNo_23 h
  · rw [if_neg g] at h
    refine iX11_isNo_12 (iX11_isNo_13 (iX11_isNo_17 ?_))
    rw [Int32.add_zero]
    refine iX11_isNo_18 rfl (Nat.le_of_ble_eq_true rfl) (iX11_isNo_21 ?_)
    have e : mW R T K D (upd s 2 (s 2)) = mW R T K D s := by rw [upd_self]
    rw [← e] at h
    exact iX11_isNo_23 h
theorem M_isFull (h : Q (-4) (mW R T K D (bump s 3))) : CallI kX11_isFull [.ref 16] (mW R T K D s) Q := by
  refine e_X11_isFull ?_
  unfold bump at h
  refine iX11_isFull_0 (iX11_isFull_1 rfl (iX11_isFull_2 rfl rfl (iX11_isFull_5 (iX11_isFull_6 rfl rfl ?_))))
  refine iX11_isFull_9 (fun g => ?_) (fun g => ?_)
  · rw [if_pos g] at h
    refine iX11_isFull_16 (iX11_isFull_17 (iX11_isFull_18 rfl (Nat.le_of_ble_eq_true rfl) (iX11_isFull_21 ?_)))
    exact iX11_isFull_23 h
  · rw [if_neg g] at h
    refine iX11_isFull_12 (iX11_isFull_13 (iX11_isFull_17 ?_))
    rw [Int32.add_zero]
    refine iX11_isFull_18 rfl (Nat.le_of_ble_eq_true rfl) (iX11_isFull_21 ?_)
    have e : mW R T K D (upd s 3 (s 3)) = mW R T K D s := by rw [upd_self]
    rw [← e] at h
    exact iX11_isFull_23 h
theorem M_isSlice (r : Rl c R n d p u k) (h1 : ∀ q, q < n → x = nI q → Q 1 (mW R T K D s)) (h0 : ¬ (0 ≤ x ∧ x ≤ nI n - 1) → Q 0 (mW R T K D s)) : CallI kX11_isSlice [.ref 16, .int x] (mW R T K D s) Q := by
  refine e_X11_isSlice ?_
  have hn20 := r.ok.2.1.1.2
  refine iX11_isSlice_0 (iX11_isSlice_1 (iX11_isSlice_2 (iX11_isSlice_3 (iX11_isSlice_4 rfl rfl (iX11_isSlice_7 (iX11_isSlice_8 (j := 0) rfl rfl (by decide) (by decide) (iX11_isSlice_9 (iX11_isSlice_10 (iX11_isSlice_11 ?_)))))))))
  rw [r.e0, r.ok.2.1.1.1]
  refine iX11_isSlice_12 (Nat.le_of_ble_eq_true rfl) (S_in (lo := 0) rfl rfl (fun a b => ?_) (fun a => ?_))
  · obtain ⟨q, hq, e⟩ := ix_of (by omega) a b
    exact iX11_isSlice_15 rfl (h1 q hq e)
  · exact iX11_isSlice_15 rfl (h0 a)
theorem M_isDoor (r : Rl c R n d p u k) (h1 : ∀ q, q < d → x = nI q → Q 1 (mW R T K D s)) (h0 : ¬ (0 ≤ x ∧ x ≤ nI d - 1) → Q 0 (mW R T K D s)) : CallI kX11_isDoor [.ref 16, .int x] (mW R T K D s) Q := by
  refine e_X11_isDoor ?_
  have hd5 := r.ok.2.1.2.1.2
  refine iX11_isDoor_0 (iX11_isDoor_1 (iX11_isDoor_2 (iX11_isDoor_3 (iX11_isDoor_4 rfl rfl (iX11_isDoor_7 (iX11_isDoor_9 (j := 24) rfl rfl (by decide) (by decide) (iX11_isDoor_10 (iX11_isDoor_11 (iX11_isDoor_12 ?_)))))))))
  rw [r.e24, r.ok.2.1.2.1.1]
  refine iX11_isDoor_13 (Nat.le_of_ble_eq_true rfl) (S_in (lo := 0) rfl rfl (fun a b => ?_) (fun a => ?_))
  · obtain ⟨q, hq, e⟩ := ix_of (by omega) a b
    exact iX11_isDoor_16 rfl (h1 q hq e)
  · exact iX11_isDoor_16 rfl (h0 a)
theorem M_isPin (r : Rl c R n d p u k) (h1 : ∀ q, q < p → x = nI q → Q 1 (mW R T K D s)) (h0 : ¬ (0 ≤ x ∧ x ≤ nI p - 1) → Q 0 (mW R T K D s)) : CallI kX11_isPin [.ref 16, .int x] (mW R T K D s) Q := by
  refine e_X11_isPin ?_
  have hp9 := r.ok.2.2.1.1.2
  refine iX11_isPin_0 (iX11_isPin_1 (iX11_isPin_2 (iX11_isPin_3 (iX11_isPin_4 rfl rfl (iX11_isPin_7 (iX11_isPin_9 (j := 35) rfl rfl (by decide) (by decide) (iX11_isPin_10 (iX11_isPin_11 (iX11_isPin_12 ?_)))))))))
  rw [r.e35, r.ok.2.2.1.1.1]
  refine iX11_isPin_13 (Nat.le_of_ble_eq_true rfl) (S_in (lo := 0) rfl rfl (fun a b => ?_) (fun a => ?_))
  · obtain ⟨q, hq, e⟩ := ix_of (by omega) a b
    exact iX11_isPin_16 rfl (h1 q hq e)
  · exact iX11_isPin_16 rfl (h0 a)
theorem M_isParty (h1 : 0 ≤ x → x ≤ 2 → Q 1 ws) (h0 : ¬ (0 ≤ x ∧ x ≤ 2) → Q 0 ws) : CallI kX11_isParty [.int x] ws Q := by
  refine e_X11_isParty ?_
  refine iX11_isParty_0 (iX11_isParty_1 (iX11_isParty_2 (iX11_isParty_3 ?_)))
  refine iX11_isParty_6 (Nat.le_of_ble_eq_true rfl) (S_in (lo := 0) (hi := 2) rfl rfl (fun a b => ?_) (fun a => ?_))
  · exact iX11_isParty_9 rfl (h1 a b)
  · exact iX11_isParty_9 rfl (h0 a)
theorem M_isMinute (h1 : 0 ≤ x → x ≤ 299 → Q 1 ws) (h0 : ¬ (0 ≤ x ∧ x ≤ 299) → Q 0 ws) : CallI kX11_isMinute [.int x] ws Q := by
  refine e_X11_isMinute ?_
  refine iX11_isMinute_0 (iX11_isMinute_1 (iX11_isMinute_2 (iX11_isMinute_3 ?_)))
  refine iX11_isMinute_6 (Nat.le_of_ble_eq_true rfl) (S_in (lo := 0) (hi := 299) rfl rfl (fun a b => ?_) (fun a => ?_))
  · exact iX11_isMinute_9 rfl (h1 a b)
  · exact iX11_isMinute_9 rfl (h0 a)
theorem M_sliceOf (r : Rl c R n d p u k) (hi : i < p) (h : Q (nI (slo c i)) (mW R T K D s)) : CallI kX11_sliceOf [.ref 16, .int (nI i)] (mW R T K D s) Q := by
  refine e_X11_sliceOf ?_
  have hp9 := r.ok.2.2.1.1.2
  refine iX11_sliceOf_0 (iX11_sliceOf_1 rfl rfl (iX11_sliceOf_4 (iX11_sliceOf_6 (iX11_sliceOf_7 (iX11_sliceOf_8 (iX11_sliceOf_9 (iX11_sliceOf_10 (iX11_sliceOf_11 (iX11_sliceOf_12 rfl (ix3 36 3 i 1) (by omega) (by decide) ?_)))))))))
  rw [r.p1 i hi, (r.ok.2.2.1.at r.ok.2.1.1.2 hi).2]
  exact iX11_sliceOf_13 h
end Mod
