/-! Outlook -/
def olW (br bh g1 g2 : Nat → Int32) (c : Ch) : Wd := [ob 3 [.ref 21, .ref 17, .ref 18, .ref 19, .ref 20], ia 0 200 br, ia 0 200 bh, ia 0 4 g1, ia 0 4 g2] ++ (chW c).map (rc (fun k => if k < 16 then k else k + 5))
abbrev plC : List Nat := [5, 6, 7, 8, 9, 10, 11, 12, 13, 14, 15, 16, 17, 18, 19, 20, 21, 22, 23, 24]
abbrev plOB : List Nat := [11, 12, 13, 14, 15, 16, 17, 18, 19, 20, 21, 22]
theorem ptC (br bh g1 g2 : Nat → Int32) (c : Ch) : Pt2 plC (chW c) (olW br bh g1 g2 c) := by
  have e : (olW br bh g1 g2 c).length = 25 := rfl
  unfold Pt2
  rw [e]
  simp only [plC, olW, chW, List.map_cons, List.map_nil, List.cons_append, List.nil_append, List.getElem?_cons_zero, List.getElem?_cons_succ]
  rfl
theorem ptOB (br bh g1 g2 : Nat → Int32) (c : Ch) : Pt2 plOB (bnW (c.1 8) c.2) (olW br bh g1 g2 c) := by
  have e : (olW br bh g1 g2 c).length = 25 := rfl
  unfold Pt2
  rw [e]
  simp only [plOB, olW, chW, bnW, List.map_cons, List.map_nil, List.cons_append, List.nil_append, List.getElem?_cons_zero, List.getElem?_cons_succ]
  rfl
/-- breath of the minutes to come -/
noncomputable def brt (c : Ch) (k : Nat) (j : Nat) : Int32 := l_sum (bBre c.2 (c.1 3 + nI j)) k
def goS (wax st : Int32) (B : Nat → Int32) (b : Int32) : Nat → Int32
  | 0 => b
  | i + 1 => if goS wax st B b i + st + B i < wax then goS wax st B b i + st + B i else wax
theorem goS_congr {wax st b : Int32} {B B2 : Nat → Int32} : ∀ i, (∀ j, j < i → B j = B2 j) → goS wax st B b i = goS wax st B2 b i
  | 0, _ => rfl
  | i + 1, h => by
    unfold goS
    rw [goS_congr i (fun j hj => h j (by omega)), h i (by omega)]
def mtS (f : Nat → Int32) (g : Int32) : Nat → Nat → Int32
  | 0, _ => -1
  | z + 1, i => if f i < g then mtS f g z (i + 1) else nI (i + 1)
theorem mtS_congr {f f2 : Nat → Int32} {g : Int32} : ∀ z i, (∀ j, j < i + z → f j = f2 j) → mtS f g z i = mtS f2 g z i
  | 0, _, _ => rfl
  | z + 1, i, h => by
    unfold mtS
    rw [h i (by omega), mtS_congr z (i + 1) (fun j hj => h j (by omega))]
def stdy (c : Ch) (d : Nat) (w : Int32) : Int32 := 1 + l_sum (cDr c w) d
noncomputable def bhd (c : Ch) (n d k : Nat) (w : Int32) (j : Nat) : Int32 := goS (l_sum (c.2 0) n) (stdy c d w) (brt c k) (c.1 1) (j + 1)
noncomputable def minT (c : Ch) (n d k : Nat) (w g : Int32) : Int32 := mtS (bhd c n d k w) g 200 0
def mOf (c : Ch) (m : Int32) : Int32 := if m = -1 then -1 else c.1 3 + m - 1
noncomputable def fall (c : Ch) (n d k : Nat) (w : Int32) (s : Nat) : Int32 := if past c s then -1 else mOf c (minT c n d k w (l_sum (c.2 0) s))
def CNk (c : Ch) (n d k : Nat) : Prop := (c.1 0 = nI n ∧ n ≤ 20) ∧ (c.1 4 = nI d ∧ d ≤ 5) ∧ (c.1 8 = nI k ∧ kOk c.2 k)
section Look
variable {br bh g1 g2 : Nat → Int32} {c : Ch} {n s d p u k i : Nat} {w x y b wax : Int32} {Q : Int32 → Wd → Prop} {R : Wd → Prop}
theorem S_feelBreath (hk : c.1 8 = nI k) (hk2 : kOk c.2 k) (h : ∀ br, (∀ j, j < 200 → br j = brt c k j) → R (olW br bh g1 g2 c)) : CallV kX3_feelBreath [.ref 16] (olW br bh g1 g2 c) R := by
  refine e_X3_feelBreath ?_
  refine iX3_feelBreath_0 (iX3_feelBreath_1 rfl ?_)
  have key : ∀ i, i ≤ 200 → ∀ br, (∀ j, j < i → br j = brt c k j) → V kX3_feelBreath 2 [some (.ref 16), some (.int (nI i))] [] (olW br bh g1 g2 c) 0 0 (qV R) := by
    refine dn 200 ?_
    intro i hi ih br hbr
    refine iX3_feelBreath_2 (iX3_feelBreath_3 ?_)
    refine iX3_feelBreath_6 (fun g => ?_) (fun g => ?_)
    · have e := eq_of (k := 200) hi (by omega) g
      subst e
      exact iX3_feelBreath_40 (h br hbr)
    · have hlt := nlt_of (k := 200) (by omega) g
      have e1 : nI i + 1 = nI (i + 1) := nI_1 i
      refine iX3_feelBreath_9 (iX3_feelBreath_10 rfl rfl (iX3_feelBreath_13 (iX3_feelBreath_14 (iX3_feelBreath_15 rfl rfl (iX3_feelBreath_18 rfl rfl (iX3_feelBreath_21 (iX3_feelBreath_22 rfl rfl (iX3_feelBreath_25 rfl rfl (iX3_feelBreath_28 (iX3_feelBreath_29 ?_))))))))))
      refine iX3_feelBreath_30P plOB (bnW (c.1 8) c.2) [.ref 16, .int (c.1 3 + nI i)] (ptOB br bh g1 g2 c) (by decide) rfl rfl (Nat.le_of_ble_eq_true rfl) (S_breathOfAll hk2 hk ⟨rfl, ?_⟩)
      refine iX3_feelBreath_33 rfl rfl (by omega) (by decide) (iX3_feelBreath_34 rfl (iX3_feelBreath_37 ?_))
      rw [e1]
      exact ih hlt (upd br i (brt c k i)) (fun j hj => by
        by_cases hji : j = i
        · subst hji; exact pk_us
        · rw [pk_un hji]; exact hbr j (by omega))
  exact key 0 (Nat.zero_le _) br (fun j hj => absurd hj (by omega))
theorem S_burnAhead {B : Nat → Int32} (hd : c.1 4 = nI d) (hd2 : d ≤ 5) (hbr : ∀ j, j < 200 → br j = B j) (h : ∀ bh, (∀ j, j < 200 → bh j = goS wax (stdy c d w) B b (j + 1)) → R (olW br bh g1 g2 c)) : CallV kX3_burnAhead [.ref 16, .int b, .int wax, .int w] (olW br bh g1 g2 c) R := by
  refine e_X3_burnAhead ?_
  refine iX3_burnAhead_0 (iX3_burnAhead_1 rfl (iX3_burnAhead_3 (iX3_burnAhead_4 (iX3_burnAhead_5 rfl rfl (iX3_burnAhead_8 ?_)))))
  refine iX3_burnAhead_9P plC (chW c) [.ref 16, .int w] (ptC br bh g1 g2 c) (by decide) rfl rfl (Nat.le_of_ble_eq_true rfl) (S_draughtOf hd hd2 ⟨rfl, ?_⟩)
  refine iX3_burnAhead_12 (iX3_burnAhead_13 rfl (iX3_burnAhead_15 (iX3_burnAhead_16 rfl ?_)))
  change V kX3_burnAhead 18 [some (.ref 16), some (.int b), some (.int wax), some (.int w), some (.int b), some (.int (stdy c d w)), some (.int (nI 0))] [] (olW br bh g1 g2 c) 0 0 (qV R)
  have key : ∀ i, i ≤ 200 → ∀ bh, (∀ j, j < i → bh j = goS wax (stdy c d w) B b (j + 1)) → V kX3_burnAhead 18 [some (.ref 16), some (.int b), some (.int wax), some (.int w), some (.int (goS wax (stdy c d w) B b i)), some (.int (stdy c d w)), some (.int (nI i))] [] (olW br bh g1 g2 c) 0 0 (qV R) := by
    refine dn 200 ?_
    intro i hi ih bh hbh
    refine iX3_burnAhead_18 (iX3_burnAhead_20 ?_)
    refine iX3_burnAhead_23 (fun g => ?_) (fun g => ?_)
    · have e := eq_of (k := 200) hi (by omega) g
      subst e
      exact iX3_burnAhead_60 (h bh hbh)
    · have hlt := nlt_of (k := 200) (by omega) g
      have e1 : nI i + 1 = nI (i + 1) := nI_1 i
      refine iX3_burnAhead_26 (iX3_burnAhead_27 (iX3_burnAhead_29 (iX3_burnAhead_31 (iX3_burnAhead_32 (iX3_burnAhead_33 rfl rfl (iX3_burnAhead_36 (iX3_burnAhead_38 rfl rfl (by omega) (by decide) ?_)))))))
      rw [hbr i hlt]
      refine iX3_burnAhead_39 (iX3_burnAhead_40 (Nat.le_of_ble_eq_true rfl) (iX3_burnAhead_43 rfl (iX3_burnAhead_45 (iX3_burnAhead_46 rfl rfl (iX3_burnAhead_49 (iX3_burnAhead_51 (iX3_burnAhead_53 rfl rfl (by omega) (by decide) (iX3_burnAhead_54 rfl (iX3_burnAhead_57 ?_)))))))))
      rw [e1]
      change V kX3_burnAhead 18 [some (.ref 16), some (.int b), some (.int wax), some (.int w), some (.int (goS wax (stdy c d w) B b (i + 1))), some (.int (stdy c d w)), some (.int (nI (i + 1)))] [] (olW br (upd bh i (goS wax (stdy c d w) B b (i + 1))) g1 g2 c) 0 0 (qV R)
      exact ih hlt _ (fun j hj => by
        by_cases hji : j = i
        · subst hji; exact pk_us
        · rw [pk_un hji]; exact hbh j (by omega))
  exact key 0 (Nat.zero_le _) bh (fun j hj => absurd hj (by omega))
theorem S_lookAhead (hc : CNk c n d k) (hbr : ∀ j, j < 200 → br j = brt c k j) (h : ∀ bh, (∀ j, j < 200 → bh j = bhd c n d k w j) → R (olW br bh g1 g2 c)) : CallV kX3_lookAhead [.ref 16, .int w] (olW br bh g1 g2 c) R := by
  refine e_X3_lookAhead ?_
  refine iX3_lookAhead_0 (iX3_lookAhead_1 (iX3_lookAhead_2 rfl rfl (iX3_lookAhead_5 rfl rfl (iX3_lookAhead_8 (iX3_lookAhead_9 rfl rfl ?_)))))
  refine iX3_lookAhead_12P plC (chW c) [.ref 16] (ptC br bh g1 g2 c) (by decide) rfl rfl (Nat.le_of_ble_eq_true rfl) (S_allWax hc.1.1 hc.1.2 ⟨rfl, ?_⟩)
  refine iX3_lookAhead_15 (iX3_lookAhead_16 rfl (Nat.le_of_ble_eq_true rfl) (S_burnAhead hc.2.1.1 hc.2.1.2 hbr (fun bh hbh => ?_)))
  exact iX3_lookAhead_19 (h bh hbh)
theorem S_minutesTill {F : Nat → Int32} (hF : ∀ j, j < 200 → bh j = F j) (h : Q (mtS F x 200 0) (olW br bh g1 g2 c)) : CallI kX3_minutesTill [.ref 16, .int x] (olW br bh g1 g2 c) Q := by
  refine e_X3_minutesTill ?_
  refine iX3_minutesTill_0 (iX3_minutesTill_1 rfl ?_)
  have key : ∀ i, i ≤ 200 → mtS F x (200 - i) i = mtS F x 200 0 → V kX3_minutesTill 2 [some (.ref 16), some (.int x), some (.int (nI i))] [] (olW br bh g1 g2 c) 0 0 (qI Q) := by
    refine dn 200 ?_
    intro i hi ih he
    refine iX3_minutesTill_2 (iX3_minutesTill_3 ?_)
    refine iX3_minutesTill_6 (fun g => ?_) (fun g => ?_)
    · have e := eq_of (k := 200) hi (by omega) g
      subst e
      refine iX3_minutesTill_29 ?_
      refine iX3_minutesTill_30 ?_
      rw [← he] at h
      exact h
    · have hlt := nlt_of (k := 200) (by omega) g
      have e1 : nI i + 1 = nI (i + 1) := nI_1 i
      have e2 : mtS F x (200 - i) i = if F i < x then mtS F x (200 - (i + 1)) (i + 1) else nI (i + 1) := by
        rw [show 200 - i = (200 - (i + 1)) + 1 by omega]
        rfl
      refine iX3_minutesTill_9 (iX3_minutesTill_10 rfl rfl (iX3_minutesTill_13 (iX3_minutesTill_14 rfl rfl (by omega) (by decide) (iX3_minutesTill_15 ?_))))
      rw [hF i hlt]
      refine iX3_minutesTill_16 (fun z => ?_) (fun z => ?_)
      · rw [if_pos z] at e2
        refine iX3_minutesTill_23 rfl (iX3_minutesTill_26 ?_)
        rw [e1]
        exact ih hlt (e2.symm.trans he)
      · rw [if_neg z] at e2
        refine iX3_minutesTill_19 (iX3_minutesTill_20 (iX3_minutesTill_21 ?_))
        rw [e1]
        refine iX3_minutesTill_22 ?_
        rw [← he, e2] at h
        exact h
  exact key 0 (Nat.zero_le _) rfl
theorem S_minuteOf {F : Nat → Int32} (hF : ∀ j, j < 200 → bh j = F j) (h : Q (mOf c (mtS F x 200 0)) (olW br bh g1 g2 c)) : CallI kX3_minuteOf [.ref 16, .int x] (olW br bh g1 g2 c) Q := by
  refine e_X3_minuteOf ?_
  refine iX3_minuteOf_0 (iX3_minuteOf_1 (iX3_minuteOf_2 rfl (Nat.le_of_ble_eq_true rfl) (S_minutesTill hF (iX3_minuteOf_5 rfl (iX3_minuteOf_6 (iX3_minuteOf_7 ?_))))))
  refine iX3_minuteOf_8 (fun g => ?_) (fun g => ?_)
  · refine iX3_minuteOf_15 (iX3_minuteOf_16 rfl rfl (iX3_minuteOf_19 rfl rfl (iX3_minuteOf_22 (iX3_minuteOf_23 (iX3_minuteOf_24 (iX3_minuteOf_25 ?_))))))
    refine iX3_minuteOf_26 ?_
    unfold mOf at h
    rw [if_neg g] at h
    exact h
  · refine iX3_minuteOf_11 (iX3_minuteOf_12 ?_)
    refine iX3_minuteOf_26 ?_
    unfold mOf at h
    rw [if_pos g] at h
    exact h
theorem S_foreseenFall (hc : CNk c n d k) (hi : i < 9) (hs : s < n) (he : c.2 3 i = nI s) (hF : ∀ j, j < 200 → bh j = bhd c n d k w j) (h : Q (fall c n d k w s) (olW br bh g1 g2 c)) : CallI kX3_foreseenFall [.ref 16, .int (nI i)] (olW br bh g1 g2 c) Q := by
  refine e_X3_foreseenFall ?_
  refine iX3_foreseenFall_0 (iX3_foreseenFall_1 rfl rfl (iX3_foreseenFall_4 ?_))
  refine iX3_foreseenFall_5P plC (chW c) [.ref 16, .int (nI i)] (ptC br bh g1 g2 c) (by decide) rfl rfl (Nat.le_of_ble_eq_true rfl) (S_isPinDown (s := s) hc.1.1 hc.1.2 hi (by omega) he (fun q => ⟨rfl, ?_⟩) (fun q => ⟨rfl, ?_⟩))
  · refine iX3_foreseenFall_8 (fun h => False.elim (by revert h; decide)) (fun _ => (iX3_foreseenFall_11 (iX3_foreseenFall_12 ?_)))
    refine iX3_foreseenFall_35 ?_
    unfold fall at h
    rw [if_pos q] at h
    exact h
  · refine iX3_foreseenFall_8 (fun _ => (iX3_foreseenFall_15 (iX3_foreseenFall_16 (iX3_foreseenFall_17 rfl rfl (iX3_foreseenFall_20 (iX3_foreseenFall_21 rfl rfl (iX3_foreseenFall_24 rfl rfl (iX3_foreseenFall_27 (iX3_foreseenFall_28 rfl rfl (by omega) (by decide) ?_))))))))) (fun h => False.elim (by revert h; decide))
    rw [he]
    refine iX3_foreseenFall_29P plC (chW c) [.ref 16, .int (nI s)] (ptC br bh g1 g2 c) (by decide) rfl rfl (Nat.le_of_ble_eq_true rfl) (S_waxAbove hc.1.1 hc.1.2 (by omega) ⟨rfl, ?_⟩)
    refine iX3_foreseenFall_32 rfl (Nat.le_of_ble_eq_true rfl) (S_minuteOf hF ?_)
    refine iX3_foreseenFall_35 ?_
    unfold fall at h
    rw [if_neg q] at h
    exact h
theorem S_fallMinute (hc : CNk c n d k) (hi : i < 9) (hs : s < n) (he : c.2 3 i = nI s) (h : ∀ br bh, Q (fall c n d k (c.1 5) s) (olW br bh g1 g2 c)) : CallI kX3_fallMinute [.ref 16, .int (nI i)] (olW br bh g1 g2 c) Q := by
  refine e_X3_fallMinute ?_
  refine iX3_fallMinute_0 (iX3_fallMinute_1 rfl (Nat.le_of_ble_eq_true rfl) (S_feelBreath hc.2.2.1 hc.2.2.2 (fun br hbr => ?_)))
  refine iX3_fallMinute_4 (iX3_fallMinute_5 (iX3_fallMinute_6 rfl rfl (iX3_fallMinute_9 rfl rfl ?_)))
  refine iX3_fallMinute_12 rfl (Nat.le_of_ble_eq_true rfl) (S_lookAhead hc hbr (fun bh hbh => ?_))
  refine iX3_fallMinute_15 (iX3_fallMinute_16 (iX3_fallMinute_17 rfl (Nat.le_of_ble_eq_true rfl) (S_foreseenFall hc hi hs he hbh ?_)))
  exact iX3_fallMinute_20 (h br bh)
theorem S_isOut (hc : CNk c n d k) (h1 : l_sum (c.2 0) n ≤ c.1 1 → Q 1 (olW br bh g1 g2 c)) (h0 : ¬ l_sum (c.2 0) n ≤ c.1 1 → Q 0 (olW br bh g1 g2 c)) : CallI kX3_isOut [.ref 16] (olW br bh g1 g2 c) Q := by
  refine e_X3_isOut ?_
  refine iX3_isOut_0 (iX3_isOut_1 rfl rfl (iX3_isOut_4 rfl rfl (iX3_isOut_7 (iX3_isOut_8 rfl rfl ?_))))
  refine iX3_isOut_11P plC (chW c) [.ref 16] (ptC br bh g1 g2 c) (by decide) rfl rfl (Nat.le_of_ble_eq_true rfl) (S_allWax hc.1.1 hc.1.2 ⟨rfl, ?_⟩)
  refine iX3_isOut_14 (fun g => ?_) (fun g => ?_)
  · refine iX3_isOut_21 ?_
    exact iX3_isOut_22 rfl (h0 (i32_ltn g))
  · refine iX3_isOut_17 (iX3_isOut_18 ?_)
    exact iX3_isOut_22 rfl (h1 (i32_nlt g))
noncomputable def outM (c : Ch) (n d k : Nat) : Int32 := if l_sum (c.2 0) n ≤ c.1 1 then -1 else mOf c (minT c n d k (c.1 5) (l_sum (c.2 0) n))
theorem S_outMinute (hc : CNk c n d k) (h : ∀ br bh, Q (outM c n d k) (olW br bh g1 g2 c)) : CallI kX3_outMinute [.ref 16] (olW br bh g1 g2 c) Q := by
  refine e_X3_outMinute ?_
  refine iX3_outMinute_0 (iX3_outMinute_1 rfl (Nat.le_of_ble_eq_true rfl) (S_isOut hc (fun q => ?_) (fun q => ?_)))
  · refine iX3_outMinute_4 (fun h => False.elim (by revert h; decide)) (fun _ => (iX3_outMinute_7 ?_))
    refine iX3_outMinute_8 ?_
    have := h br bh
    unfold outM at this
    rw [if_pos q] at this
    exact this
  · refine iX3_outMinute_4 (fun _ => ?_) (fun h => False.elim (by revert h; decide))
    refine iX3_outMinute_9 (iX3_outMinute_10 rfl (Nat.le_of_ble_eq_true rfl) (S_feelBreath hc.2.2.1 hc.2.2.2 (fun br hbr => ?_)))
    refine iX3_outMinute_13 (iX3_outMinute_14 (iX3_outMinute_15 rfl rfl (iX3_outMinute_18 rfl rfl ?_)))
    refine iX3_outMinute_21 rfl (Nat.le_of_ble_eq_true rfl) (S_lookAhead hc hbr (fun bh hbh => ?_))
    refine iX3_outMinute_24 (iX3_outMinute_25 (iX3_outMinute_26 rfl rfl ?_))
    refine iX3_outMinute_29P plC (chW c) [.ref 16] (ptC br bh g1 g2 c) (by decide) rfl rfl (Nat.le_of_ble_eq_true rfl) (S_allWax hc.1.1 hc.1.2 ⟨rfl, ?_⟩)
    refine iX3_outMinute_32 rfl (Nat.le_of_ble_eq_true rfl) (S_minuteOf hbh ?_)
    refine iX3_outMinute_35 ?_
    have := h br bh
    unfold outM at this
    rw [if_neg q] at this
    exact this
/-- who has the house -/
noncomputable def hs (c : Ch) (k : Nat) (t : Int32) : Int32 := (bBest c.2 k t 3).1
theorem S_houseAtFall (hc : CNk c n d k) (hi : i < 9) (hs1 : s < n) (he : c.2 3 i = nI s) (h : ∀ br bh, Q (if fall c n d k (c.1 5) s = -1 then -1 else hs c k (fall c n d k (c.1 5) s)) (olW br bh g1 g2 c)) : CallI kX3_houseAtFall [.ref 16, .int (nI i)] (olW br bh g1 g2 c) Q := by
  refine e_X3_houseAtFall ?_
  refine iX3_houseAtFall_0 (iX3_houseAtFall_1 (iX3_houseAtFall_2 rfl (Nat.le_of_ble_eq_true rfl) (S_fallMinute hc hi hs1 he (fun br bh => ?_))))
  have h := h br bh
  refine iX3_houseAtFall_5 rfl (iX3_houseAtFall_6 (iX3_houseAtFall_7 ?_))
  refine iX3_houseAtFall_8 (fun g => ?_) (fun g => ?_)
  · rw [if_neg g] at h
    refine iX3_houseAtFall_15 (iX3_houseAtFall_16 rfl rfl (iX3_houseAtFall_19 rfl rfl (iX3_houseAtFall_22 ?_)))
    refine iX3_houseAtFall_23P plOB (bnW (c.1 8) c.2) [.ref 16, .int (fall c n d k (c.1 5) s)] (ptOB br bh g1 g2 c) (by decide) rfl rfl (Nat.le_of_ble_eq_true rfl) (S_strongest hc.2.2.2 hc.2.2.1 ⟨rfl, ?_⟩)
    exact iX3_houseAtFall_26 h
  · rw [if_pos g] at h
    refine iX3_houseAtFall_11 (iX3_houseAtFall_12 ?_)
    exact iX3_houseAtFall_26 h
noncomputable def wordsF (c : Ch) (n d k s : Nat) (x y : Int32) : Int32 := if fall c n d k (c.1 5) s = -1 then -1 else if y * (fall c n d k (c.1 5) s - c.1 3 + 1) < x then y * (fall c n d k (c.1 5) s - c.1 3 + 1) else x
theorem S_wordsRead (hc : CNk c n d k) (hi : i < 9) (hs1 : s < n) (he : c.2 3 i = nI s) (h : ∀ br bh, Q (wordsF c n d k s x y) (olW br bh g1 g2 c)) : CallI kX3_wordsRead [.ref 16, .int x, .int y, .int (nI i)] (olW br bh g1 g2 c) Q := by
  refine e_X3_wordsRead ?_
  refine iX3_wordsRead_0 (iX3_wordsRead_1 (iX3_wordsRead_2 rfl (Nat.le_of_ble_eq_true rfl) (S_fallMinute hc hi hs1 he (fun br bh => ?_))))
  have h := h br bh
  unfold wordsF at h
  refine iX3_wordsRead_5 rfl (iX3_wordsRead_7 (iX3_wordsRead_9 ?_))
  refine iX3_wordsRead_10 (fun g => ?_) (fun g => ?_)
  · rw [if_neg g] at h
    refine iX3_wordsRead_17 (iX3_wordsRead_18 (iX3_wordsRead_19 (iX3_wordsRead_21 (iX3_wordsRead_22 rfl rfl (iX3_wordsRead_25 rfl rfl (iX3_wordsRead_28 (iX3_wordsRead_29 (iX3_wordsRead_30 (iX3_wordsRead_31 (iX3_wordsRead_32 (Nat.le_of_ble_eq_true rfl) ?_))))))))))
    exact iX3_wordsRead_35 h
  · rw [if_pos g] at h
    refine iX3_wordsRead_13 (iX3_wordsRead_14 ?_)
    exact iX3_wordsRead_35 h
end Look
