/-! Chamber: numbers 0 slices, 1 burnt, 2 owed, 3 now, 4 doors, 5 open doors, 6 pins, 7 undoable, 8 members; rows 0 thickness, 1 draughts, 2 .. 4 pins, 5 6 ahead, 7 .. 10 members -/
abbrev Ch : Type := (Nat → Int32) × (Nat → Nat → Int32)
def chW (c : Ch) : Wd := [ob 1 [.ref 17, .int (c.1 0), .int (c.1 1), .int (c.1 2), .int (c.1 3), .ref 18, .int (c.1 4), .int (c.1 5), .ref 19, .ref 20, .ref 21, .int (c.1 6), .ref 22, .ref 34, .ref 35, .int (c.1 7)], ia 0 20 (c.2 0), ia 0 5 (c.2 1), ia 0 9 (c.2 2), ia 0 9 (c.2 3), ia 0 9 (c.2 4),
  ob 0 [.ref 27, .ref 23, .ref 24, .ref 25, .ref 26, .int (c.1 8)], ia 0 6 (c.2 7), ia 0 6 (c.2 8), ia 0 6 (c.2 9), ia 0 6 (c.2 10), ra 3 [some 28, some 29, some 30, some 31, some 32, some 33], ob 5 [], ob 7 [], ob 2 [], ob 9 [], ob 8 [], ob 4 [], ia 0 12 (c.2 5), ia 0 12 (c.2 6)]
abbrev plB : List Nat := [6, 7, 8, 9, 10, 11, 12, 13, 14, 15, 16, 17]
theorem sub_toInt {n : Nat} (hn : n < 1073741824) : (nI n - 1).toInt = (n : Int) - 1 := pk_sub_toInt (a := n) (b := 1) hn (by omega)
theorem ix_of {x : Int32} {n : Nat} (hn : n < 1073741824) (h0 : 0 ≤ x) (h1 : x ≤ nI n - 1) : ∃ s, s < n ∧ x = nI s := by
  obtain ⟨j, hj, e⟩ := nI_of (i32_len h0)
  subst e
  have h2 := Int32.le_iff_toInt_le.mp h1
  rw [sub_toInt hn, nI_toInt hj] at h2
  exact ⟨j, by omega, rfl⟩
theorem ix_in {n s : Nat} (hn : n < 1073741824) (h : s < n) : 0 ≤ nI s ∧ nI s ≤ nI n - 1 := by
  refine ⟨nI_pos' (by omega), Int32.le_iff_toInt_le.mpr ?_⟩
  rw [sub_toInt hn, nI_toInt (by omega)]
  omega
section Cham
variable {c : Ch} {n s d p u k : Nat} {Q : Int32 → Wd → Prop}
theorem S_waxAbove (hn : c.1 0 = nI n) (hn2 : n ≤ 20) (hs : s ≤ n) (h : Q (l_sum (c.2 0) s) (chW c)) : CallI kX1_waxAbove [.ref 16, .int (nI s)] (chW c) Q := by
  refine e_X1_waxAbove ?_
  refine iX1_waxAbove_0 (iX1_waxAbove_1 rfl (iX1_waxAbove_2 (iX1_waxAbove_3 rfl ?_)))
  refine dn s (P := fun i => V kX1_waxAbove 4 [some (.ref 16), some (.int (nI s)), some (.int (l_sum (c.2 0) i)), some (.int (nI i))] [] (chW c) 0 0 (qI Q)) ?_ 0 (Nat.zero_le _)
  intro i hi ih
  refine iX1_waxAbove_4 (iX1_waxAbove_5 ?_)
  refine iX1_waxAbove_6 (fun g => ?_) (fun g => ?_)
  · have e := eq_of hi (by omega) g
    subst e
    refine iX1_waxAbove_32 ?_
    exact iX1_waxAbove_33 h
  · have hlt := nlt_of (by omega) g
    have ih := ih hlt
    have e1 : nI i + 1 = nI (i + 1) := nI_1 i
    refine iX1_waxAbove_9 (iX1_waxAbove_10 (iX1_waxAbove_11 rfl rfl (iX1_waxAbove_14 (fun h => False.elim (by (rw [hn] at h; have := (nI_leI (by omega) (by omega)).mp h; omega))) (fun _ => (iX1_waxAbove_17 (iX1_waxAbove_18 (iX1_waxAbove_19 rfl rfl (iX1_waxAbove_22 (iX1_waxAbove_23 rfl rfl (by omega) (by decide) (iX1_waxAbove_24 (iX1_waxAbove_25 rfl (iX1_waxAbove_26 rfl (iX1_waxAbove_29 ?_)))))))))))))
    rw [e1]
    exact ih
theorem S_allWax (hn : c.1 0 = nI n) (hn2 : n ≤ 20) (h : Q (l_sum (c.2 0) n) (chW c)) : CallI kX1_allWax [.ref 16] (chW c) Q := by
  refine e_X1_allWax ?_
  refine iX1_allWax_0 (iX1_allWax_1 (iX1_allWax_2 rfl rfl ?_))
  rw [hn]
  refine iX1_allWax_5 rfl (Nat.le_of_ble_eq_true rfl) (S_waxAbove hn hn2 (Nat.le_refl _) ?_)
  exact iX1_allWax_8 h
abbrev past (c : Ch) (s : Nat) : Prop := 0 < c.1 3 ∧ l_sum (c.2 0) s ≤ c.1 1
theorem S_isPast (hn : c.1 0 = nI n) (hn2 : n ≤ 20) (hs : s ≤ n) (h1 : past c s → Q 1 (chW c)) (h0 : ¬ past c s → Q 0 (chW c)) : CallI kX1_isPast [.ref 16, .int (nI s)] (chW c) Q := by
  refine e_X1_isPast ?_
  refine iX1_isPast_0 (iX1_isPast_1 rfl rfl ?_)
  refine iX1_isPast_4 (fun g => ?_) (fun g => ?_)
  · refine iX1_isPast_23 ?_
    exact iX1_isPast_24 rfl (h0 (fun q => i32_ltn q.1 g))
  · refine iX1_isPast_7 (iX1_isPast_8 rfl rfl (iX1_isPast_11 (iX1_isPast_12 (iX1_isPast_13 rfl (Nat.le_of_ble_eq_true rfl) (S_waxAbove hn hn2 hs ?_)))))
    refine iX1_isPast_16 (fun g2 => ?_) (fun g2 => ?_)
    · refine iX1_isPast_23 ?_
      exact iX1_isPast_24 rfl (h0 (fun q => i32_ltn g2 q.2))
    · refine iX1_isPast_19 (iX1_isPast_20 ?_)
      exact iX1_isPast_24 rfl (h1 ⟨i32_nle g, i32_nlt g2⟩)
theorem S_isPinDown {i : Nat} (hn : c.1 0 = nI n) (hn2 : n ≤ 20) (hi : i < 9) (hs : s ≤ n) (he : c.2 3 i = nI s) (h1 : past c s → Q 1 (chW c)) (h0 : ¬ past c s → Q 0 (chW c)) : CallI kX1_isPinDown [.ref 16, .int (nI i)] (chW c) Q := by
  refine e_X1_isPinDown ?_
  refine iX1_isPinDown_0 (iX1_isPinDown_1 (iX1_isPinDown_2 rfl rfl (iX1_isPinDown_5 (iX1_isPinDown_6 rfl rfl (by omega) (by decide) ?_))))
  rw [he]
  refine iX1_isPinDown_7 rfl (Nat.le_of_ble_eq_true rfl) (S_isPast hn hn2 hs (fun q => ?_) (fun q => ?_))
  · exact iX1_isPinDown_10 rfl (h1 q)
  · exact iX1_isPinDown_10 rfl (h0 q)
theorem S_hasPin {x : Int32} (hp : c.1 6 = nI p) (hp2 : p ≤ 9) (h1 : ∀ i, i < p → x = nI i → Q 1 (chW c)) (h0 : ¬ (0 ≤ x ∧ x ≤ nI p - 1) → Q 0 (chW c)) : CallI kX1_hasPin [.ref 16, .int x] (chW c) Q := by
  refine e_X1_hasPin ?_
  refine iX1_hasPin_0 (iX1_hasPin_1 (iX1_hasPin_2 (iX1_hasPin_3 rfl rfl (iX1_hasPin_6 (iX1_hasPin_7 ?_)))))
  rw [hp]
  refine iX1_hasPin_8 (Nat.le_of_ble_eq_true rfl) (S_within (fun a b => ?_) (fun a => ?_))
  · obtain ⟨i, hi, e⟩ := ix_of (by omega) a b
    exact iX1_hasPin_11 rfl (h1 i hi e)
  · exact iX1_hasPin_11 rfl (h0 a)
theorem S_hasDoor {x : Int32} (hd : c.1 4 = nI d) (hd2 : d ≤ 5) (h1 : ∀ i, i < d → x = nI i → Q 1 (chW c)) (h0 : ¬ (0 ≤ x ∧ x ≤ nI d - 1) → Q 0 (chW c)) : CallI kX1_hasDoor [.ref 16, .int x] (chW c) Q := by
  refine e_X1_hasDoor ?_
  refine iX1_hasDoor_0 (iX1_hasDoor_1 (iX1_hasDoor_2 (iX1_hasDoor_3 rfl rfl (iX1_hasDoor_6 (iX1_hasDoor_7 ?_)))))
  rw [hd]
  refine iX1_hasDoor_8 (Nat.le_of_ble_eq_true rfl) (S_within (fun a b => ?_) (fun a => ?_))
  · obtain ⟨i, hi, e⟩ := ix_of (by omega) a b
    exact iX1_hasDoor_11 rfl (h1 i hi e)
  · exact iX1_hasDoor_11 rfl (h0 a)
/-- bit i of a set -/
abbrev bitOn (w : Int32) (i : Nat) : Prop := (w >>> (nI i &&& 31)) &&& 1 = 1
theorem S_isOpen {i : Nat} (h1 : bitOn (c.1 5) i → Q 1 (chW c)) (h0 : ¬ bitOn (c.1 5) i → Q 0 (chW c)) : CallI kX1_isOpen [.ref 16, .int (nI i)] (chW c) Q := by
  refine e_X1_isOpen ?_
  refine iX1_isOpen_0 (iX1_isOpen_1 rfl rfl (iX1_isOpen_4 (iX1_isOpen_5 (iX1_isOpen_6 (iX1_isOpen_7 (iX1_isOpen_8 ?_))))))
  refine iX1_isOpen_9 (fun g => ?_) (fun g => ?_)
  · refine iX1_isOpen_16 ?_
    exact iX1_isOpen_17 rfl (h0 g)
  · refine iX1_isOpen_12 (iX1_isOpen_13 ?_)
    exact iX1_isOpen_17 rfl (h1 g)
def cDr (c : Ch) (w : Int32) (i : Nat) : Int32 := if bitOn w i then c.2 1 i else 0
theorem S_draughtOf {w : Int32} (hd : c.1 4 = nI d) (hd2 : d ≤ 5) (h : Q (l_sum (cDr c w) d) (chW c)) : CallI kX1_draughtOf [.ref 16, .int w] (chW c) Q := by
  refine e_X1_draughtOf ?_
  refine iX1_draughtOf_0 (iX1_draughtOf_1 rfl (iX1_draughtOf_2 (iX1_draughtOf_3 rfl ?_)))
  refine dn d (P := fun i => V kX1_draughtOf 4 [some (.ref 16), some (.int w), some (.int (l_sum (cDr c w) i)), some (.int (nI i))] [] (chW c) 0 0 (qI Q)) ?_ 0 (Nat.zero_le _)
  intro i hi ih
  refine iX1_draughtOf_4 (iX1_draughtOf_5 (iX1_draughtOf_6 rfl rfl ?_))
  rw [hd]
  refine iX1_draughtOf_9 (fun g => ?_) (fun g => ?_)
  · have e := eq_of hi (by omega) g
    subst e
    refine iX1_draughtOf_36 ?_
    exact iX1_draughtOf_37 h
  · have hlt := nlt_of (by omega) g
    have ih := ih hlt
    have e1 : nI i + 1 = nI (i + 1) := nI_1 i
    have e2 : l_sum (cDr c w) (i + 1) = l_sum (cDr c w) i + cDr c w i := rfl
    refine iX1_draughtOf_12 (iX1_draughtOf_13 (iX1_draughtOf_14 (iX1_draughtOf_15 (iX1_draughtOf_16 (iX1_draughtOf_17 ?_)))))
    refine iX1_draughtOf_18 (fun g2 => ?_) (fun g2 => ?_)
    · have e3 : cDr c w i = 0 := if_neg g2
      rw [e2, e3, Int32.add_zero] at ih
      refine iX1_draughtOf_30 rfl (iX1_draughtOf_33 ?_)
      rw [e1]
      exact ih
    · have e3 : cDr c w i = c.2 1 i := if_pos g2
      rw [e2, e3] at ih
      refine iX1_draughtOf_21 (iX1_draughtOf_22 (iX1_draughtOf_23 rfl rfl (iX1_draughtOf_26 (iX1_draughtOf_27 rfl rfl (by omega) (by decide) (iX1_draughtOf_28 (iX1_draughtOf_29 rfl (iX1_draughtOf_30 rfl (iX1_draughtOf_33 ?_))))))))
      rw [e1]
      exact ih
noncomputable def cFl (c : Ch) (d k : Nat) (t : Int32) : Int32 := 1 + l_sum (cDr c (c.1 5)) d + l_sum (bBre c.2 t) k
theorem S_flame {t : Int32} (hd : c.1 4 = nI d) (hd2 : d ≤ 5) (hk : c.1 8 = nI k) (hk2 : kOk c.2 k) (h : Q (cFl c d k t) (chW c)) : CallI kX1_flame [.ref 16, .int t] (chW c) Q := by
  refine e_X1_flame ?_
  refine iX1_flame_0 (iX1_flame_1 (iX1_flame_2 (iX1_flame_3 rfl rfl (iX1_flame_6 rfl (Nat.le_of_ble_eq_true rfl) (S_draughtOf hd hd2 (iX1_flame_9 (iX1_flame_10 (iX1_flame_11 rfl rfl (iX1_flame_14 ?_)))))))))
  refine iX1_flame_15P plB (bnW (c.1 8) c.2) [.ref 16, .int t] rfl (by decide) rfl rfl (Nat.le_of_ble_eq_true rfl) (S_breathOfAll hk2 hk ⟨rfl, ?_⟩)
  refine iX1_flame_18 ?_
  exact iX1_flame_19 h
/-! a candle anew -/
def lgS (x : Int32) : Nat → Int32 := fun j => if j = 0 then x else 0
def lgA (f : Nat → Int32) (i : Nat) : Nat → Int32 := fun j => if j < i then 4 else f j
def lgt (c : Ch) (x : Int32) : Ch := (lgS x, va_up c.2 0 (lgA (c.2 0) 20))
theorem lgA_step (f : Nat → Int32) (i : Nat) : upd (lgA f i) i 4 = lgA f (i + 1) := by
  funext j
  simp only [upd, lgA]
  by_cases h : j = i
  · subst h; simp
  · by_cases h2 : j < i
    · simp [h, h2, Nat.lt_succ_of_lt h2]
    · simp [h, h2, show ¬ j < i + 1 by omega]
theorem S_lightAnew {x : Int32} (hb : ¬ (1 ≤ x ∧ x ≤ 20) → Q (-2) (chW c)) (ok : 1 ≤ x → x ≤ 20 → Q (c.1 0) (chW (lgt c x))) : CallI kX1_lightAnew [.ref 16, .int x] (chW c) Q := by
  refine e_X1_lightAnew ?_
  refine iX1_lightAnew_0 (iX1_lightAnew_1 (iX1_lightAnew_2 ?_))
  refine iX1_lightAnew_4 (Nat.le_of_ble_eq_true rfl) (S_within (fun a b => ?_) (fun a => ?_))
  · refine iX1_lightAnew_7 (fun _ => (iX1_lightAnew_13 (iX1_lightAnew_14 rfl rfl (iX1_lightAnew_17 rfl (iX1_lightAnew_18 (iX1_lightAnew_19 (iX1_lightAnew_20 rfl (Nat.le_of_ble_eq_true rfl) (iX1_lightAnew_23 (iX1_lightAnew_24 rfl ?_))))))))) (fun h => False.elim (by revert h; decide))
    have fin := ok a b
    suffices hh : ∀ i, i ≤ 20 → V kX1_lightAnew 25 [some (.ref 16), some (.int x), some (.int (c.1 0)), some (.int (nI i))] [] (chW (upd c.1 0 x, va_up c.2 0 (lgA (c.2 0) i))) 0 0 (qI Q) by
      have e0 : lgA (c.2 0) 0 = c.2 0 := by funext j; simp [lgA]
      have := hh 0 (Nat.zero_le _)
      rw [e0] at this
      exact this
    refine dn 20 ?_
    intro i hi ih
    refine iX1_lightAnew_25 (iX1_lightAnew_26 ?_)
    refine iX1_lightAnew_28 (fun g => ?_) (fun g => ?_)
    · have e := eq_of (k := 20) hi (by omega) g
      subst e
      refine iX1_lightAnew_44 (iX1_lightAnew_45 (iX1_lightAnew_46 rfl (Nat.le_of_ble_eq_true rfl) (iX1_lightAnew_49 (iX1_lightAnew_50 (iX1_lightAnew_51 rfl (Nat.le_of_ble_eq_true rfl) (iX1_lightAnew_54 (iX1_lightAnew_55 (iX1_lightAnew_56 rfl (Nat.le_of_ble_eq_true rfl) (iX1_lightAnew_59 (iX1_lightAnew_60 (iX1_lightAnew_61 rfl (Nat.le_of_ble_eq_true rfl) (iX1_lightAnew_64 (iX1_lightAnew_65 (iX1_lightAnew_66 rfl (Nat.le_of_ble_eq_true rfl) (iX1_lightAnew_69 (iX1_lightAnew_70 (iX1_lightAnew_71 rfl (Nat.le_of_ble_eq_true rfl) (iX1_lightAnew_74 (iX1_lightAnew_75 (iX1_lightAnew_76 rfl (Nat.le_of_ble_eq_true rfl) (iX1_lightAnew_79 (iX1_lightAnew_80 rfl rfl ?_))))))))))))))))))))))
      refine iX1_lightAnew_83F plB (bnW (c.1 8) c.2) [.ref 16] rfl (by decide) rfl rfl (Nat.le_of_ble_eq_true rfl) (S_sendAllHome ?_)
      refine iX1_lightAnew_86 ?_
      exact iX1_lightAnew_87 fin
    · have hlt := nlt_of (k := 20) (by omega) g
      have ih := ih hlt
      have e1 : nI i + 1 = nI (i + 1) := nI_1 i
      refine iX1_lightAnew_31 (iX1_lightAnew_32 rfl rfl (iX1_lightAnew_35 (iX1_lightAnew_36 (iX1_lightAnew_37 rfl rfl (by omega) (by decide) (iX1_lightAnew_38 rfl (iX1_lightAnew_41 ?_))))))
      rw [e1]
      rw [← lgA_step] at ih
      exact ih
  · refine iX1_lightAnew_7 (fun h => False.elim (by revert h; decide)) (fun _ => (iX1_lightAnew_10 ?_))
    exact iX1_lightAnew_12 (hb a)
end Cham
