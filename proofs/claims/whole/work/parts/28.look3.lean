/-- all told fall as told -/
noncomputable def fallP (c : Ch) (n d k : Nat) (w : Int32) (i : Nat) : Int32 := fall c n d k w (slo c i)
abbrev tldI (c : Ch) (n d k : Nat) (w : Int32) (i : Nat) : Prop := c.2 4 i = -1 ∨ fallP c n d k w i = c.2 4 i
def tld (c : Ch) (n d k p : Nat) (w : Int32) : Prop := ∀ i, i < p → tldI c n d k w i
theorem iff_pos {P : Prop} {α : Sort _} {a b : α} {inst : Decidable P} (h : P) : (@ite α P inst a b) = a := if_pos h
noncomputable def lnS (c : Ch) (n d k p : Nat) : Nat → Int32 × Int32
  | 0 => (0, -1)
  | i + 1 => by
    classical
    exact if tld c n d k p (nI i) then ((lnS c n d k p i).1 + 1, if (lnS c n d k p i).2 = -1 then nI i else (lnS c n d k p i).2) else lnS c n d k p i
theorem lnS_y {c : Ch} {n d k p i : Nat} (h : tld c n d k p (nI i)) : lnS c n d k p (i + 1) = ((lnS c n d k p i).1 + 1, if (lnS c n d k p i).2 = -1 then nI i else (lnS c n d k p i).2) := by
  conv => lhs; unfold lnS
  exact if_pos h
theorem lnS_n {c : Ch} {n d k p i : Nat} (h : ¬ tld c n d k p (nI i)) : lnS c n d k p (i + 1) = lnS c n d k p i := by
  conv => lhs; unfold lnS
  exact if_neg h
/-- quorum -/
noncomputable def vall (c : Ch) (k : Nat) (t : Int32) : Int32 := l_sum (bSum c.2 k t) 3
noncomputable def quS (c : Ch) (k : Nat) (q : Int32) : Nat → Int32 × Int32
  | 0 => (0, -1)
  | i + 1 => if vall c k (c.1 3 + nI i) < q then quS c k q i else ((quS c k q i).1 + 1, if (quS c k q i).2 = -1 then c.1 3 + nI i else (quS c k q i).2)
/-- tallow -/
def tlw (f : Nat → Int32) (tw : Int32) (i : Nat) : Int32 := if tw = 0 then (f i + 1) / 2 else 2 * f i
noncomputable def tlwR (c : Ch) (n d k s : Nat) (tw : Int32) : Int32 := if past c s then -1 else mtS (fun j => goS (l_sum (tlw (c.2 0) tw) n) (stdy c d (c.1 5)) (brt c k) (if l_sum (tlw (c.2 0) tw) n < c.1 1 then l_sum (tlw (c.2 0) tw) n else c.1 1) (j + 1)) (l_sum (tlw (c.2 0) tw) s) 200 0
/-- race -/
noncomputable def tillO (c : Ch) (n d k : Nat) : Int32 := if l_sum (c.2 0) n ≤ c.1 1 then 0 else if minT c n d k (c.1 5) (l_sum (c.2 0) n) = -1 then 201 else minT c n d k (c.1 5) (l_sum (c.2 0) n)
noncomputable def raceR (c : Ch) (n d k : Nat) (x y : Int32) : Int32 := if 200 < tillO c n d k ∧ 200 < (c.1 0 * x + y - 1) / y then 3 else if tillO c n d k = (c.1 0 * x + y - 1) / y then 2 else if tillO c n d k < (c.1 0 * x + y - 1) / y then 0 else 1
/-- gains -/
noncomputable def gnI (c : Ch) (n d k : Nat) (w x : Int32) (i : Nat) : Int32 := if fallP c n d k w i = -1 then 0 else if hs c k (fallP c n d k w i) = c.2 2 i then (if c.2 2 i = x then 1 else -1) else 0
noncomputable def gn (c : Ch) (n d k p : Nat) (w x : Int32) : Int32 := l_sum (gnI c n d k w x) p
/-- pairs of doors -/
def prW (w : Int32) (a b : Int32) (i : Nat) : Int32 := ((w &&& (((1 : Int32) <<< (a &&& 31)) ^^^ (-1))) &&& (((1 : Int32) <<< (b &&& 31)) ^^^ (-1))) ||| ((nI i / 2) <<< (a &&& 31)) ||| ((nI i - nI i / 2 * 2) <<< (b &&& 31))
abbrev rst (g1 g2 : Nat → Int32) (i : Nat) : Prop := g1 (i ^^^ 2) ≤ g1 i ∧ g2 (i ^^^ 1) ≤ g2 i
def rsS (g1 g2 : Nat → Int32) : Nat → Int32 × Int32
  | 0 => (0, -1)
  | i + 1 => if rst g1 g2 i then ((rsS g1 g2 i).1 + 1, if (rsS g1 g2 i).2 = -1 then 10 * (nI i / 2) + (nI i - nI i / 2 * 2) else (rsS g1 g2 i).2) else rsS g1 g2 i
/-- moths -/
def mtX (x : Int64) : Nat → Int64
  | 0 => x
  | i + 1 => (mtX x i * 1103515245 + 12345) - (mtX x i * 1103515245 + 12345) / 2147483648 * 2147483648
def mtY (x : Int64) (i : Nat) : Int64 := mtX x (i + 1) / 65536 - mtX x (i + 1) / 65536 / 100 * 100
noncomputable def mthS (c : Ch) (d k : Nat) (w x : Int64) : Nat → Int32
  | 0 => c.1 1
  | i + 1 => if lg_cmp (mtY x i) w < 0 then mthS c d k w x i else mthS c d k w x i + cFl c d k (c.1 3 + nI i)
noncomputable def mthR (c : Ch) (n d k : Nat) (m : Nat) (w x : Int64) : Int32 := if l_sum (c.2 0) n < mthS c d k w x m then l_sum (c.2 0) n else mthS c d k w x m
section Look3
variable {br bh g1 g2 : Nat → Int32} {c : Ch} {n s d p u k i : Nat} {w x y z b wax t : Int32} {Q : Int32 → Wd → Prop} {R : Wd → Prop}
theorem S_allFallAsTold (hc : CNk c n d k) (hp : PinOk c n p) (hbr : ∀ j, j < 200 → br j = brt c k j) (h1 : tld c n d k p w → ∀ bh, Q 1 (olW br bh g1 g2 c)) (h0 : ¬ tld c n d k p w → ∀ bh, Q 0 (olW br bh g1 g2 c)) : CallI kX3_allFallAsTold [.ref 16, .int w] (olW br bh g1 g2 c) Q := by
  refine e_X3_allFallAsTold ?_
  refine iX3_allFallAsTold_0 (iX3_allFallAsTold_1 (iX3_allFallAsTold_2 rfl (Nat.le_of_ble_eq_true rfl) (S_lookAhead hc hbr (fun bh hbh => ?_))))
  have hp2 := hp.1.2
  refine iX3_allFallAsTold_5 (iX3_allFallAsTold_6 rfl ?_)
  have key : ∀ j, j ≤ p → (∀ i, i < j → tldI c n d k w i) → ∀ x3, V kX3_allFallAsTold 7 [some (.ref 16), some (.int w), some (.int (nI j)), x3] [] (olW br bh g1 g2 c) 0 0 (qI Q) := by
    refine dn p ?_
    intro j hj ih hall x3
    refine iX3_allFallAsTold_7 (iX3_allFallAsTold_8 (iX3_allFallAsTold_9 rfl rfl (iX3_allFallAsTold_12 rfl rfl ?_)))
    rw [hp.1.1]
    refine iX3_allFallAsTold_15 (fun g => ?_) (fun g => ?_)
    · have e := eq_of hj (by omega) g
      subst e
      refine iX3_allFallAsTold_50 ?_
      exact iX3_allFallAsTold_51 rfl (h1 hall bh)
    · have hlt := nlt_of (by omega) g
      have ih := ih hlt
      have e1 : nI j + 1 = nI (j + 1) := nI_1 j
      have go : tldI c n d k w j → ∀ x3, V kX3_allFallAsTold 44 [some (.ref 16), some (.int w), some (.int (nI j)), some (.int x3)] [] (olW br bh g1 g2 c) 0 0 (qI Q) := by
        intro q x3
        refine iX3_allFallAsTold_44 rfl (iX3_allFallAsTold_47 ?_)
        rw [e1]
        exact ih (fun i hi => by
          by_cases hij : i = j
          · subst hij; exact q
          · exact hall i (by omega)) _
      refine iX3_allFallAsTold_18 (iX3_allFallAsTold_19 rfl rfl (iX3_allFallAsTold_22 rfl rfl (iX3_allFallAsTold_25 (iX3_allFallAsTold_26 rfl rfl (by omega) (by decide) (iX3_allFallAsTold_27 rfl (iX3_allFallAsTold_28 (iX3_allFallAsTold_29 ?_)))))))
      refine iX3_allFallAsTold_30 (fun q => ?_) (fun q => ?_)
      · exact go (Or.inl q) _
      · obtain ⟨hs1, he⟩ := hp.at hc.1.2 hlt
        refine iX3_allFallAsTold_33 (iX3_allFallAsTold_34 (iX3_allFallAsTold_35 rfl (Nat.le_of_ble_eq_true rfl) (S_foreseenFall hc (by omega) hs1 he hbh (iX3_allFallAsTold_38 ?_))))
        refine iX3_allFallAsTold_39 (fun q2 => ?_) (fun q2 => ?_)
        · exact go (Or.inr q2) _
        · refine iX3_allFallAsTold_42 ?_
          exact iX3_allFallAsTold_43 rfl (h0 (fun z => (z j hlt).elim q q2) bh)
  exact key 0 (Nat.zero_le _) (fun i hi => absurd hi (by omega)) none
theorem S_doorsThatLeaned (hc : CNk c n d k) (hp : PinOk c n p) (h : ∀ br bh, Q (if x = 0 then (lnS c n d k p (2 ^ d)).1 else (lnS c n d k p (2 ^ d)).2) (olW br bh g1 g2 c)) : CallI kX3_doorsThatLeaned [.ref 16, .int x] (olW br bh g1 g2 c) Q := by
  refine e_X3_doorsThatLeaned ?_
  refine iX3_doorsThatLeaned_0 (iX3_doorsThatLeaned_1 rfl (Nat.le_of_ble_eq_true rfl) (S_feelBreath hc.2.2.1 hc.2.2.2 (fun br hbr => ?_)))
  have hp5 := pow5 hc.2.1.2
  refine iX3_doorsThatLeaned_4 (iX3_doorsThatLeaned_5 rfl (iX3_doorsThatLeaned_6 (iX3_doorsThatLeaned_7 rfl (iX3_doorsThatLeaned_8 (iX3_doorsThatLeaned_9 rfl ?_)))))
  have key : ∀ j, j ≤ 2 ^ d → ∀ bh, V kX3_doorsThatLeaned 11 [some (.ref 16), some (.int x), some (.int (lnS c n d k p j).1), some (.int (lnS c n d k p j).2), some (.int (nI j))] [] (olW br bh g1 g2 c) 0 0 (qI Q) := by
    refine dn (2 ^ d) ?_
    intro j hj ih bh
    refine iX3_doorsThatLeaned_11 (iX3_doorsThatLeaned_13 (iX3_doorsThatLeaned_14 (iX3_doorsThatLeaned_15 rfl rfl (iX3_doorsThatLeaned_18 rfl rfl (iX3_doorsThatLeaned_21 ?_)))))
    rw [hc.2.1.1, sh1 hc.2.1.2]
    refine iX3_doorsThatLeaned_22 (fun g => ?_) (fun g => ?_)
    · have e := eq_of hj (by omega) g
      subst e
      have h := h br bh
      refine iX3_doorsThatLeaned_55 ?_
      refine iX3_doorsThatLeaned_56 (fun q => ?_) (fun q => ?_)
      · rw [if_neg q] at h
        refine iX3_doorsThatLeaned_63 ?_
        exact iX3_doorsThatLeaned_64 h
      · rw [if_pos q] at h
        refine iX3_doorsThatLeaned_59 (iX3_doorsThatLeaned_60 ?_)
        exact iX3_doorsThatLeaned_64 h
    · have hlt := nlt_of (by omega) g
      have ih := ih hlt
      have e1 : nI j + 1 = nI (j + 1) := nI_1 j
      refine iX3_doorsThatLeaned_25 (iX3_doorsThatLeaned_26 (iX3_doorsThatLeaned_28 rfl (Nat.le_of_ble_eq_true rfl) (S_allFallAsTold hc hp hbr (fun q bh => ?_) (fun q bh => ?_))))
      · have e2 := lnS_y q
        refine iX3_doorsThatLeaned_31 (fun h => False.elim (by revert h; decide)) (fun _ => (iX3_doorsThatLeaned_34 rfl (iX3_doorsThatLeaned_37 (iX3_doorsThatLeaned_38 ?_))))
        refine iX3_doorsThatLeaned_39 (fun q2 => ?_) (fun q2 => ?_)
        · rw [if_neg q2] at e2
          refine iX3_doorsThatLeaned_47 (iX3_doorsThatLeaned_48 rfl (iX3_doorsThatLeaned_49 rfl (iX3_doorsThatLeaned_52 ?_)))
          rw [e1]
          have := ih bh
          rw [e2] at this
          exact this
        · rw [if_pos q2] at e2
          refine iX3_doorsThatLeaned_42 (iX3_doorsThatLeaned_44 (iX3_doorsThatLeaned_48 rfl (iX3_doorsThatLeaned_49 rfl (iX3_doorsThatLeaned_52 ?_))))
          rw [e1]
          have := ih bh
          rw [e2] at this
          exact this
      · have e2 := lnS_n q
        refine iX3_doorsThatLeaned_31 (fun _ => (iX3_doorsThatLeaned_49 rfl (iX3_doorsThatLeaned_52 ?_))) (fun h => False.elim (by revert h; decide))
        rw [e1]
        have := ih bh
        rw [e2] at this
        exact this
  exact key 0 (Nat.zero_le _) bh
theorem S_quorum {t m : Nat} (hc : CNk c n d k) (ht : c.1 3 = nI t) (ht2 : t < 1000000) (hm : m ≤ 60) (h : Q (if z = 0 then (quS c k x m).1 else (quS c k x m).2) (olW br bh g1 g2 c)) : CallI kX3_minutesWithQuorum [.ref 16, .int x, .int (nI m), .int z] (olW br bh g1 g2 c) Q := by
  refine e_X3_minutesWithQuorum ?_
  refine iX3_minutesWithQuorum_0 (iX3_minutesWithQuorum_1 rfl (iX3_minutesWithQuorum_3 (iX3_minutesWithQuorum_4 rfl (iX3_minutesWithQuorum_6 (iX3_minutesWithQuorum_7 rfl rfl (iX3_minutesWithQuorum_10 rfl rfl (iX3_minutesWithQuorum_13 rfl ?_)))))))
  have key : ∀ j, j ≤ m → V kX3_minutesWithQuorum 15 [some (.ref 16), some (.int x), some (.int (nI m)), some (.int z), some (.int (quS c k x j).1), some (.int (quS c k x j).2), some (.int (c.1 3 + nI j))] [] (olW br bh g1 g2 c) 0 0 (qI Q) := by
    refine dn m ?_
    intro j hj ih
    have ej : c.1 3 + nI j = nI (t + j) := by rw [ht, nI_add]
    have em : c.1 3 + nI m = nI (t + m) := by rw [ht, nI_add]
    refine iX3_minutesWithQuorum_15 (iX3_minutesWithQuorum_17 (iX3_minutesWithQuorum_18 rfl rfl (iX3_minutesWithQuorum_21 rfl rfl (iX3_minutesWithQuorum_24 (iX3_minutesWithQuorum_25 ?_)))))
    refine iX3_minutesWithQuorum_26 (fun g => ?_) (fun g => ?_)
    · rw [ej, em] at g
      have e := eq_of (by omega) (by omega) g
      have e : j = m := by omega
      subst e
      refine iX3_minutesWithQuorum_69 ?_
      refine iX3_minutesWithQuorum_70 (fun q => ?_) (fun q => ?_)
      · rw [if_neg q] at h
        refine iX3_minutesWithQuorum_78 ?_
        exact iX3_minutesWithQuorum_80 h
      · rw [if_pos q] at h
        refine iX3_minutesWithQuorum_73 (iX3_minutesWithQuorum_75 ?_)
        exact iX3_minutesWithQuorum_80 h
    · rw [ej, em] at g
      have hlt := nlt_of (by omega) g
      have ih := ih (by omega)
      have e1 : c.1 3 + nI j + 1 = c.1 3 + nI (j + 1) := by rw [Int32.add_assoc, nI_1]
      have e2 : quS c k x (j + 1) = if vall c k (c.1 3 + nI j) < x then quS c k x j else ((quS c k x j).1 + 1, if (quS c k x j).2 = -1 then c.1 3 + nI j else (quS c k x j).2) := rfl
      refine iX3_minutesWithQuorum_29 (iX3_minutesWithQuorum_30 rfl rfl (iX3_minutesWithQuorum_33 rfl rfl (iX3_minutesWithQuorum_36 ?_)))
      refine iX3_minutesWithQuorum_38P plOB (bnW (c.1 8) c.2) [.ref 16, .int (c.1 3 + nI j)] (ptOB br bh g1 g2 c) (by decide) rfl rfl (Nat.le_of_ble_eq_true rfl) (S_votesOfAll hc.2.2.2 hc.2.2.1 ⟨rfl, ?_⟩)
      change V kX3_minutesWithQuorum 41 _ [.int (vall c k (c.1 3 + nI j))] _ 0 0 _
      refine iX3_minutesWithQuorum_41 ?_
      refine iX3_minutesWithQuorum_42 (fun q => ?_) (fun q => ?_)
      · rw [if_pos q] at e2
        refine iX3_minutesWithQuorum_63 rfl (iX3_minutesWithQuorum_66 ?_)
        rw [e1]
        rw [e2] at ih
        exact ih
      · rw [if_neg q] at e2
        refine iX3_minutesWithQuorum_45 rfl (iX3_minutesWithQuorum_48 (iX3_minutesWithQuorum_50 ?_))
        refine iX3_minutesWithQuorum_51 (fun q2 => ?_) (fun q2 => ?_)
        · rw [if_neg q2] at e2
          refine iX3_minutesWithQuorum_59 (iX3_minutesWithQuorum_61 rfl (iX3_minutesWithQuorum_63 rfl (iX3_minutesWithQuorum_66 ?_)))
          rw [e1]
          rw [e2] at ih
          exact ih
        · rw [if_pos q2] at e2
          refine iX3_minutesWithQuorum_54 (iX3_minutesWithQuorum_56 (iX3_minutesWithQuorum_61 rfl (iX3_minutesWithQuorum_63 rfl (iX3_minutesWithQuorum_66 ?_))))
          rw [e1]
          rw [e2] at ih
          exact ih
  have := key 0 (Nat.zero_le _)
  rw [show c.1 3 + nI 0 = c.1 3 from Int32.add_zero _] at this
  exact this
theorem S_tallowAbove (hn : c.1 0 = nI n) (hn2 : n ≤ 20) (hs1 : s ≤ n) (h : Q (l_sum (tlw (c.2 0) z) s) (olW br bh g1 g2 c)) : CallI kX3_tallowAbove [.ref 16, .int (nI s), .int z] (olW br bh g1 g2 c) Q := by
  refine e_X3_tallowAbove ?_
  refine iX3_tallowAbove_0 (iX3_tallowAbove_1 rfl (iX3_tallowAbove_2 (iX3_tallowAbove_3 rfl ?_)))
  have key : ∀ i, i ≤ s → ∀ x5, V kX3_tallowAbove 5 [some (.ref 16), some (.int (nI s)), some (.int z), some (.int (l_sum (tlw (c.2 0) z) i)), some (.int (nI i)), x5] [] (olW br bh g1 g2 c) 0 0 (qI Q) := by
    refine dn s ?_
    intro i hi ih x5
    refine iX3_tallowAbove_5 (iX3_tallowAbove_7 ?_)
    refine iX3_tallowAbove_8 (fun g => ?_) (fun g => ?_)
    · have e := eq_of hi (by omega) g
      subst e
      refine iX3_tallowAbove_61 ?_
      exact iX3_tallowAbove_62 h
    · have hlt := nlt_of (by omega) g
      have ih := ih hlt
      have e1 : nI i + 1 = nI (i + 1) := nI_1 i
      have e2 : l_sum (tlw (c.2 0) z) (i + 1) = l_sum (tlw (c.2 0) z) i + tlw (c.2 0) z i := rfl
      refine iX3_tallowAbove_11 (iX3_tallowAbove_13 (iX3_tallowAbove_14 rfl rfl (iX3_tallowAbove_17 rfl rfl (iX3_tallowAbove_20 (fun h => False.elim (by (rw [hn] at h; have := (nI_leI (by omega) (by omega)).mp h; omega))) (fun _ => (iX3_tallowAbove_23 (iX3_tallowAbove_24 rfl rfl (iX3_tallowAbove_27 rfl rfl (iX3_tallowAbove_30 (iX3_tallowAbove_32 rfl rfl (by omega) (by decide) (iX3_tallowAbove_33 rfl (iX3_tallowAbove_35 (iX3_tallowAbove_36 ?_)))))))))))))
      refine iX3_tallowAbove_37 (fun q => ?_) (fun q => ?_)
      · have e3 : tlw (c.2 0) z i = (c.2 0 i + 1) / 2 := if_pos q
        refine iX3_tallowAbove_47 (iX3_tallowAbove_49 (iX3_tallowAbove_50 (iX3_tallowAbove_51 (iX3_tallowAbove_52 (by decide) (iX3_tallowAbove_53 (iX3_tallowAbove_54 rfl (iX3_tallowAbove_55 rfl (iX3_tallowAbove_58 ?_))))))))
        rw [e1]
        have := ih (some (.int (c.2 0 i)))
        rw [e2, e3] at this
        exact this
      · have e3 : tlw (c.2 0) z i = 2 * c.2 0 i := if_neg q
        refine iX3_tallowAbove_40 (iX3_tallowAbove_41 (iX3_tallowAbove_43 (iX3_tallowAbove_44 (iX3_tallowAbove_53 (iX3_tallowAbove_54 rfl (iX3_tallowAbove_55 rfl (iX3_tallowAbove_58 ?_)))))))
        rw [e1]
        have := ih (some (.int (c.2 0 i)))
        rw [e2, e3] at this
        exact this
  exact key 0 (Nat.zero_le _) none
theorem S_tallow (hc : CNk c n d k) (hi : i < 9) (hs1 : s < n) (he : c.2 3 i = nI s) (h : ∀ br bh, Q (tlwR c n d k s z) (olW br bh g1 g2 c)) : CallI kX3_minutesOfTallow [.ref 16, .int (nI i), .int z] (olW br bh g1 g2 c) Q := by
  refine e_X3_minutesOfTallow ?_
  refine iX3_minutesOfTallow_0 (iX3_minutesOfTallow_1 rfl rfl (iX3_minutesOfTallow_4 ?_))
  refine iX3_minutesOfTallow_5P plC (chW c) [.ref 16, .int (nI i)] (ptC br bh g1 g2 c) (by decide) rfl rfl (Nat.le_of_ble_eq_true rfl) (S_isPinDown (s := s) hc.1.1 hc.1.2 hi (by omega) he (fun q => ⟨rfl, ?_⟩) (fun q => ⟨rfl, ?_⟩))
  · refine iX3_minutesOfTallow_8 (fun h => False.elim (by revert h; decide)) (fun _ => (iX3_minutesOfTallow_11 ?_))
    have h := h br bh
    unfold tlwR at h
    rw [if_pos q] at h
    exact iX3_minutesOfTallow_12 h
  · refine iX3_minutesOfTallow_8 (fun _ => ?_) (fun h => False.elim (by revert h; decide))
    refine iX3_minutesOfTallow_13 (iX3_minutesOfTallow_14 rfl (Nat.le_of_ble_eq_true rfl) (S_feelBreath hc.2.2.1 hc.2.2.2 (fun br hbr => ?_)))
    refine iX3_minutesOfTallow_17 (iX3_minutesOfTallow_18 (iX3_minutesOfTallow_19 rfl rfl (iX3_minutesOfTallow_22 rfl rfl ?_)))
    rw [hc.1.1]
    refine iX3_minutesOfTallow_25 (iX3_minutesOfTallow_26 rfl (Nat.le_of_ble_eq_true rfl) (S_tallowAbove hc.1.1 hc.1.2 (Nat.le_refl _) (iX3_minutesOfTallow_29 rfl (iX3_minutesOfTallow_30 (iX3_minutesOfTallow_31 (iX3_minutesOfTallow_32 rfl rfl (iX3_minutesOfTallow_35 rfl rfl (iX3_minutesOfTallow_38 (iX3_minutesOfTallow_39 (Nat.le_of_ble_eq_true rfl) (iX3_minutesOfTallow_42 (iX3_minutesOfTallow_43 (iX3_minutesOfTallow_44 rfl rfl (iX3_minutesOfTallow_47 rfl rfl ?_)))))))))))))
    refine iX3_minutesOfTallow_50 rfl (Nat.le_of_ble_eq_true rfl) (S_burnAhead hc.2.1.1 hc.2.1.2 hbr (fun bh hbh => ?_))
    refine iX3_minutesOfTallow_53 (iX3_minutesOfTallow_54 (iX3_minutesOfTallow_55 (iX3_minutesOfTallow_56 rfl rfl (iX3_minutesOfTallow_59 rfl rfl (iX3_minutesOfTallow_62 (iX3_minutesOfTallow_63 rfl rfl (by omega) (by decide) ?_))))))
    rw [he]
    have h := h br bh
    unfold tlwR at h
    rw [if_neg q] at h
    refine iX3_minutesOfTallow_64 (iX3_minutesOfTallow_65 rfl (Nat.le_of_ble_eq_true rfl) (S_tallowAbove hc.1.1 hc.1.2 (by omega) (iX3_minutesOfTallow_68 rfl (Nat.le_of_ble_eq_true rfl) (S_minutesTill hbh ?_))))
    exact iX3_minutesOfTallow_71 h
theorem S_minutesTillOut (hc : CNk c n d k) (h : ∀ br bh, Q (tillO c n d k) (olW br bh g1 g2 c)) : CallI kX3_minutesTillOut [.ref 16] (olW br bh g1 g2 c) Q := by
  refine e_X3_minutesTillOut ?_
  refine iX3_minutesTillOut_0 (iX3_minutesTillOut_1 rfl (Nat.le_of_ble_eq_true rfl) (S_isOut hc (fun q => ?_) (fun q => ?_)))
  · refine iX3_minutesTillOut_4 (fun h => False.elim (by revert h; decide)) (fun _ => (iX3_minutesTillOut_7 ?_))
    have h := h br bh
    unfold tillO at h
    rw [if_pos q] at h
    exact iX3_minutesTillOut_8 h
  · refine iX3_minutesTillOut_4 (fun _ => ?_) (fun h => False.elim (by revert h; decide))
    refine iX3_minutesTillOut_9 (iX3_minutesTillOut_10 rfl (Nat.le_of_ble_eq_true rfl) (S_feelBreath hc.2.2.1 hc.2.2.2 (fun br hbr => ?_)))
    refine iX3_minutesTillOut_13 (iX3_minutesTillOut_14 (iX3_minutesTillOut_15 rfl rfl (iX3_minutesTillOut_18 rfl rfl ?_)))
    refine iX3_minutesTillOut_21 rfl (Nat.le_of_ble_eq_true rfl) (S_lookAhead hc hbr (fun bh hbh => ?_))
    have h := h br bh
    unfold tillO at h
    rw [if_neg q] at h
    refine iX3_minutesTillOut_24 (iX3_minutesTillOut_25 (iX3_minutesTillOut_26 rfl rfl ?_))
    refine iX3_minutesTillOut_29P plC (chW c) [.ref 16] (ptC br bh g1 g2 c) (by decide) rfl rfl (Nat.le_of_ble_eq_true rfl) (S_allWax hc.1.1 hc.1.2 ⟨rfl, ?_⟩)
    refine iX3_minutesTillOut_32 rfl (Nat.le_of_ble_eq_true rfl) (S_minutesTill hbh (iX3_minutesTillOut_35 rfl (iX3_minutesTillOut_36 (iX3_minutesTillOut_37 ?_))))
    change V kX3_minutesTillOut 38 _ [.int (-1), .int (minT c n d k (c.1 5) (l_sum (c.2 0) n))] _ 0 0 _
    refine iX3_minutesTillOut_38 (fun g => ?_) (fun g => ?_)
    · rw [if_neg g] at h
      refine iX3_minutesTillOut_47 ?_
      exact iX3_minutesTillOut_48 h
    · rw [if_pos g] at h
      refine iX3_minutesTillOut_41 (iX3_minutesTillOut_44 ?_)
      exact iX3_minutesTillOut_48 h
theorem S_firstOut (hc : CNk c n d k) (hy : 1 ≤ y) (hy0 : ¬ y = 0) (h : ∀ br bh, Q (raceR c n d k x y) (olW br bh g1 g2 c)) : CallI kX3_firstOut [.ref 16, .int x, .int y] (olW br bh g1 g2 c) Q := by
  refine e_X3_firstOut ?_
  refine iX3_firstOut_0 (iX3_firstOut_1 rfl (Nat.le_of_ble_eq_true rfl) (S_minutesTillOut hc (fun br bh => ?_)))
  have h := h br bh
  unfold raceR at h
  refine iX3_firstOut_4 rfl (iX3_firstOut_5 (iX3_firstOut_6 (iX3_firstOut_7 (fun _ => (iX3_firstOut_16 (iX3_firstOut_17 rfl rfl (iX3_firstOut_20 rfl rfl (iX3_firstOut_23 (iX3_firstOut_24 (iX3_firstOut_25 (iX3_firstOut_26 (iX3_firstOut_27 (iX3_firstOut_28 (iX3_firstOut_29 (iX3_firstOut_30 hy0 (iX3_firstOut_31 rfl (iX3_firstOut_33 (iX3_firstOut_34 ?_))))))))))))))) (fun h => False.elim (by (exact h hy))))))
  have tl : ¬ (200 < tillO c n d k ∧ 200 < (c.1 0 * x + y - 1) / y) → V kX3_firstOut 50 [some (.ref 16), some (.int x), some (.int y), some (.int (tillO c n d k)), some (.int ((c.1 0 * x + y - 1) / y))] [] (olW br bh g1 g2 c) 0 0 (qI Q) := by
    intro q
    rw [if_neg q] at h
    refine iX3_firstOut_50 (iX3_firstOut_51 ?_)
    refine iX3_firstOut_53 (fun q2 => ?_) (fun q2 => ?_)
    · rw [if_neg q2] at h
      refine iX3_firstOut_58 (iX3_firstOut_59 ?_)
      refine iX3_firstOut_61 (fun q3 => ?_) (fun q3 => ?_)
      · rw [if_neg (i32_len q3)] at h
        refine iX3_firstOut_68 ?_
        exact iX3_firstOut_69 h
      · rw [if_pos (i32_nle q3)] at h
        refine iX3_firstOut_64 (iX3_firstOut_65 ?_)
        exact iX3_firstOut_69 h
    · rw [if_pos q2] at h
      refine iX3_firstOut_56 ?_
      exact iX3_firstOut_57 h
  refine iX3_firstOut_37 (fun g => ?_) (fun g => ?_)
  · exact tl (fun q => i32_ltn q.1 g)
  · refine iX3_firstOut_40 (iX3_firstOut_42 ?_)
    refine iX3_firstOut_45 (fun g2 => ?_) (fun g2 => ?_)
    · exact tl (fun q => i32_ltn q.2 g2)
    · rw [if_pos ⟨i32_nle g, i32_nle g2⟩] at h
      refine iX3_firstOut_48 ?_
      exact iX3_firstOut_49 h
end Look3
