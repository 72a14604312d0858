theorem xr2 {i : Nat} (h : i < 4) : (nI i ^^^ 2 = nI (i ^^^ 2) ∧ i ^^^ 2 < 4) ∧ (nI i ^^^ 1 = nI (i ^^^ 1) ∧ i ^^^ 1 < 4) := by
  match i, h with
  | 0, _ => decide
  | 1, _ => decide
  | 2, _ => decide
  | 3, _ => decide
  | i + 4, h => exact absurd h (by omega)
theorem l_sum_S (f : Nat → Int32) (i : Nat) : l_sum f (i + 1) = l_sum f i + f i := rfl
section Look4
variable {br bh g1 g2 : Nat → Int32} {c : Ch} {n s d p u k i : Nat} {w x y z b wax t : Int32} {Q : Int32 → Wd → Prop} {R : Wd → Prop}
theorem S_gainOf (hc : CNk c n d k) (hp : PinOk c n p) (hbh : ∀ j, j < 200 → bh j = bhd c n d k w j) (h : Q (gn c n d k p w x) (olW br bh g1 g2 c)) : CallI kX3_gainOf [.ref 16, .int x] (olW br bh g1 g2 c) Q := by
  refine e_X3_gainOf ?_
  have hp2 := hp.1.2
  refine iX3_gainOf_0 (iX3_gainOf_1 rfl (iX3_gainOf_2 (iX3_gainOf_3 rfl ?_)))
  have key : ∀ j, j ≤ p → ∀ x4 x5, V kX3_gainOf 4 [some (.ref 16), some (.int x), some (.int (l_sum (gnI c n d k w x) j)), some (.int (nI j)), x4, x5] [] (olW br bh g1 g2 c) 0 0 (qI Q) := by
    refine dn p ?_
    intro j hj ih x4 x5
    refine iX3_gainOf_4 (iX3_gainOf_5 (iX3_gainOf_6 rfl rfl (iX3_gainOf_9 rfl rfl ?_)))
    rw [hp.1.1]
    refine iX3_gainOf_12 (fun g => ?_) (fun g => ?_)
    · have e := eq_of hj (by omega) g
      subst e
      refine iX3_gainOf_76 ?_
      exact iX3_gainOf_77 h
    · have hlt := nlt_of (by omega) g
      have ih := ih hlt
      have e1 : nI j + 1 = nI (j + 1) := nI_1 j
      have e2 := l_sum_S (gnI c n d k w x) j
      obtain ⟨hs1, he⟩ := hp.at hc.1.2 hlt
      refine iX3_gainOf_15 (iX3_gainOf_16 (iX3_gainOf_17 rfl (Nat.le_of_ble_eq_true rfl) (S_foreseenFall hc (by omega) hs1 he hbh (iX3_gainOf_20 rfl ?_))))
      change V kX3_gainOf 22 [_, _, _, _, some (.int (fallP c n d k w j)), _] _ _ 0 0 _
      have skip : gnI c n d k w x j = 0 → V kX3_gainOf 70 [some (.ref 16), some (.int x), some (.int (l_sum (gnI c n d k w x) j)), some (.int (nI j)), some (.int (fallP c n d k w j)), some (.int (c.2 2 j))] [] (olW br bh g1 g2 c) 0 0 (qI Q) := by
        intro q
        refine iX3_gainOf_70 rfl (iX3_gainOf_73 ?_)
        rw [e1]
        have := ih (some (.int (fallP c n d k w j))) (some (.int (c.2 2 j)))
        rw [e2, q, Int32.add_zero] at this
        exact this
      have add : ∀ v, gnI c n d k w x j = v → V kX3_gainOf 68 [some (.ref 16), some (.int x), some (.int (l_sum (gnI c n d k w x) j)), some (.int (nI j)), some (.int (fallP c n d k w j)), some (.int (c.2 2 j))] [.int v, .int (l_sum (gnI c n d k w x) j)] (olW br bh g1 g2 c) 0 0 (qI Q) := by
        intro v q
        refine iX3_gainOf_68 (iX3_gainOf_69 rfl (iX3_gainOf_70 rfl (iX3_gainOf_73 ?_)))
        rw [e1]
        have := ih (some (.int (fallP c n d k w j))) (some (.int (c.2 2 j)))
        rw [e2, q] at this
        exact this
      refine iX3_gainOf_22 (iX3_gainOf_23 rfl rfl (iX3_gainOf_26 rfl rfl (iX3_gainOf_29 (iX3_gainOf_30 rfl rfl (by omega) (by decide) (iX3_gainOf_31 rfl (iX3_gainOf_33 (iX3_gainOf_35 ?_)))))))
      refine iX3_gainOf_36 (fun q => ?_) (fun q => ?_)
      · exact skip (by unfold gnI; rw [if_pos q])
      · refine iX3_gainOf_39 (iX3_gainOf_40 rfl rfl (iX3_gainOf_43 rfl rfl (iX3_gainOf_46 ?_)))
        refine iX3_gainOf_48P plOB (bnW (c.1 8) c.2) [.ref 16, .int (fallP c n d k w j)] (ptOB br bh g1 g2 c) (by decide) rfl rfl (Nat.le_of_ble_eq_true rfl) (S_strongest hc.2.2.2 hc.2.2.1 ⟨rfl, ?_⟩)
        change V kX3_gainOf 51 _ [.int (hs c k (fallP c n d k w j))] _ 0 0 _
        refine iX3_gainOf_51 ?_
        refine iX3_gainOf_53 (fun q2 => ?_) (fun q2 => ?_)
        · exact skip (by unfold gnI; rw [if_neg q, if_neg q2])
        · refine iX3_gainOf_56 (iX3_gainOf_57 (iX3_gainOf_59 ?_))
          refine iX3_gainOf_60 (fun q3 => ?_) (fun q3 => ?_)
          · refine iX3_gainOf_67 ?_
            exact add _ (by unfold gnI; rw [if_neg q, if_pos q2, if_neg q3])
          · refine iX3_gainOf_63 (iX3_gainOf_64 ?_)
            exact add _ (by unfold gnI; rw [if_neg q, if_pos q2, if_pos q3])
  exact key 0 (Nat.zero_le _) none none
theorem S_playDoors {a : Int32} (hc : CNk c n d k) (hp : PinOk c n p) (h : ∀ br bh g1 g2, (∀ i, i < 4 → g1 i = gn c n d k p (prW (c.1 5) a b i) x) → (∀ i, i < 4 → g2 i = gn c n d k p (prW (c.1 5) a b i) y) → R (olW br bh g1 g2 c)) : CallV kX3_playDoors [.ref 16, .int x, .int a, .int y, .int b] (olW br bh g1 g2 c) R := by
  refine e_X3_playDoors ?_
  refine iX3_playDoors_0 (iX3_playDoors_1 rfl (Nat.le_of_ble_eq_true rfl) (S_feelBreath hc.2.2.1 hc.2.2.2 (fun br hbr => ?_)))
  refine iX3_playDoors_4 (iX3_playDoors_5 rfl rfl (iX3_playDoors_8 rfl rfl (iX3_playDoors_11 (iX3_playDoors_12 (iX3_playDoors_13 (iX3_playDoors_14 (iX3_playDoors_15 (iX3_playDoors_16 (iX3_playDoors_17 (iX3_playDoors_18 (iX3_playDoors_20 (iX3_playDoors_21 (iX3_playDoors_22 (iX3_playDoors_23 (iX3_playDoors_24 rfl (iX3_playDoors_26 (iX3_playDoors_27 rfl ?_)))))))))))))))))
  have key : ∀ j, j ≤ 4 → ∀ bh g1 g2, (∀ i, i < j → g1 i = gn c n d k p (prW (c.1 5) a b i) x) → (∀ i, i < j → g2 i = gn c n d k p (prW (c.1 5) a b i) y) → V kX3_playDoors 29 [some (.ref 16), some (.int x), some (.int a), some (.int y), some (.int b), some (.int ((c.1 5 &&& (((1 : Int32) <<< (a &&& 31)) ^^^ (-1))) &&& (((1 : Int32) <<< (b &&& 31)) ^^^ (-1)))), some (.int (nI j))] [] (olW br bh g1 g2 c) 0 0 (qV R) := by
    refine dn 4 ?_
    intro j hj ih bh g1 g2 hg1 hg2
    refine iX3_playDoors_29 (iX3_playDoors_31 ?_)
    refine iX3_playDoors_32 (fun g => ?_) (fun g => ?_)
    · have e := eq_of (k := 4) hj (by omega) g
      subst e
      exact iX3_playDoors_86 (h br bh g1 g2 hg1 hg2)
    · have hlt := nlt_of (k := 4) (by omega) g
      have e1 : nI j + 1 = nI (j + 1) := nI_1 j
      refine iX3_playDoors_35 (iX3_playDoors_36 (iX3_playDoors_38 (iX3_playDoors_40 (iX3_playDoors_41 (by decide) (iX3_playDoors_42 (iX3_playDoors_43 (iX3_playDoors_44 (iX3_playDoors_45 (iX3_playDoors_47 (iX3_playDoors_48 (by decide) (iX3_playDoors_49 (iX3_playDoors_51 (iX3_playDoors_52 ?_)))))))))))))
      change V kX3_playDoors 53 _ [.int (prW (c.1 5) a b j), .ref 16] _ 0 0 _
      refine iX3_playDoors_53 rfl (Nat.le_of_ble_eq_true rfl) (S_lookAhead hc hbr (fun bh hbh => ?_))
      refine iX3_playDoors_56 (iX3_playDoors_57 rfl rfl (iX3_playDoors_60 (iX3_playDoors_62 (iX3_playDoors_63 ?_))))
      refine iX3_playDoors_64 rfl (Nat.le_of_ble_eq_true rfl) (S_gainOf hc hp hbh ?_)
      refine iX3_playDoors_67 rfl rfl (by omega) (by decide) ?_
      change V kX3_playDoors 68 _ _ (olW br bh (upd g1 j (gn c n d k p (prW (c.1 5) a b j) x)) g2 c) 0 0 _
      refine iX3_playDoors_68 (iX3_playDoors_69 rfl rfl (iX3_playDoors_72 (iX3_playDoors_74 (iX3_playDoors_75 ?_))))
      refine iX3_playDoors_76 rfl (Nat.le_of_ble_eq_true rfl) (S_gainOf hc hp hbh ?_)
      refine iX3_playDoors_79 rfl rfl (by omega) (by decide) ?_
      change V kX3_playDoors 80 _ _ (olW br bh (upd g1 j (gn c n d k p (prW (c.1 5) a b j) x)) (upd g2 j (gn c n d k p (prW (c.1 5) a b j) y)) c) 0 0 _
      refine iX3_playDoors_80 rfl (iX3_playDoors_83 ?_)
      rw [e1]
      refine ih hlt bh _ _ (fun i hi => ?_) (fun i hi => ?_)
      · by_cases hij : i = j
        · subst hij; exact pk_us
        · rw [pk_un hij]; exact hg1 i (by omega)
      · by_cases hij : i = j
        · subst hij; exact pk_us
        · rw [pk_un hij]; exact hg2 i (by omega)
  exact key 0 (Nat.zero_le _) bh g1 g2 (fun i hi => absurd hi (by omega)) (fun i hi => absurd hi (by omega))
theorem S_pairs (h : Q (if x = 0 then (rsS g1 g2 4).1 else (rsS g1 g2 4).2) (olW br bh g1 g2 c)) : CallI kX3_pairsThatRest [.ref 16, .int x] (olW br bh g1 g2 c) Q := by
  refine e_X3_pairsThatRest ?_
  refine iX3_pairsThatRest_0 (iX3_pairsThatRest_1 rfl (iX3_pairsThatRest_2 (iX3_pairsThatRest_3 rfl (iX3_pairsThatRest_4 (iX3_pairsThatRest_5 rfl ?_)))))
  have key : ∀ j, j ≤ 4 → ∀ x5 x6, V kX3_pairsThatRest 7 [some (.ref 16), some (.int x), some (.int (rsS g1 g2 j).1), some (.int (rsS g1 g2 j).2), some (.int (nI j)), x5, x6] [] (olW br bh g1 g2 c) 0 0 (qI Q) := by
    refine dn 4 ?_
    intro j hj ih x5 x6
    refine iX3_pairsThatRest_7 (iX3_pairsThatRest_9 ?_)
    refine iX3_pairsThatRest_10 (fun g => ?_) (fun g => ?_)
    · have e := eq_of (k := 4) hj (by omega) g
      subst e
      refine iX3_pairsThatRest_106 ?_
      refine iX3_pairsThatRest_107 (fun q => ?_) (fun q => ?_)
      · rw [if_neg q] at h
        refine iX3_pairsThatRest_114 ?_
        exact iX3_pairsThatRest_115 h
      · rw [if_pos q] at h
        refine iX3_pairsThatRest_110 (iX3_pairsThatRest_111 ?_)
        exact iX3_pairsThatRest_115 h
    · have hlt := nlt_of (k := 4) (by omega) g
      have ih := ih hlt
      have e1 : nI j + 1 = nI (j + 1) := nI_1 j
      have e2 : rsS g1 g2 (j + 1) = if rst g1 g2 j then ((rsS g1 g2 j).1 + 1, if (rsS g1 g2 j).2 = -1 then 10 * (nI j / 2) + (nI j - nI j / 2 * 2) else (rsS g1 g2 j).2) else rsS g1 g2 j := rfl
      have hx := xr2 hlt
      have no : ¬ rst g1 g2 j → ∀ A B, V kX3_pairsThatRest 100 [some (.ref 16), some (.int x), some (.int (rsS g1 g2 j).1), some (.int (rsS g1 g2 j).2), some (.int (nI j)), some (.int A), some (.int B)] [] (olW br bh g1 g2 c) 0 0 (qI Q) := by
        intro q A B
        rw [if_neg q] at e2
        refine iX3_pairsThatRest_100 rfl (iX3_pairsThatRest_103 ?_)
        rw [e1]
        have := ih (some (.int A)) (some (.int B))
        rw [e2] at this
        exact this
      have stepB : ∀ A B : Int32, (A = 1 ∧ g1 (j ^^^ 2) ≤ g1 j ∨ A = 0 ∧ ¬ g1 (j ^^^ 2) ≤ g1 j) → (B = 1 ∧ g2 (j ^^^ 1) ≤ g2 j ∨ B = 0 ∧ ¬ g2 (j ^^^ 1) ≤ g2 j) → V kX3_pairsThatRest 63 [some (.ref 16), some (.int x), some (.int (rsS g1 g2 j).1), some (.int (rsS g1 g2 j).2), some (.int (nI j)), some (.int A), x6] [.int B] (olW br bh g1 g2 c) 0 0 (qI Q) := by
        intro A B hA hB
        refine iX3_pairsThatRest_63 rfl (iX3_pairsThatRest_65 ?_)
        rcases hA with ⟨rfl, hA⟩ | ⟨rfl, hA⟩
        · refine iX3_pairsThatRest_67 (fun h => False.elim (by revert h; decide)) (fun _ => (iX3_pairsThatRest_70 ?_))
          rcases hB with ⟨rfl, hB⟩ | ⟨rfl, hB⟩
          · rw [if_pos ⟨hA, hB⟩] at e2
            refine iX3_pairsThatRest_72 (fun h => False.elim (by revert h; decide)) (fun _ => (iX3_pairsThatRest_75 rfl (iX3_pairsThatRest_78 (iX3_pairsThatRest_79 ?_))))
            refine iX3_pairsThatRest_80 (fun q2 => ?_) (fun q2 => ?_)
            · rw [if_neg q2] at e2
              refine iX3_pairsThatRest_98 (iX3_pairsThatRest_99 rfl (iX3_pairsThatRest_100 rfl (iX3_pairsThatRest_103 ?_)))
              rw [e1]
              have := ih (some (.int 1)) (some (.int 1))
              rw [e2] at this
              exact this
            · rw [if_pos q2] at e2
              refine iX3_pairsThatRest_83 (iX3_pairsThatRest_85 (iX3_pairsThatRest_87 (iX3_pairsThatRest_88 (by decide) (iX3_pairsThatRest_89 (iX3_pairsThatRest_90 (iX3_pairsThatRest_92 (iX3_pairsThatRest_93 (by decide) (iX3_pairsThatRest_94 (iX3_pairsThatRest_95 (iX3_pairsThatRest_99 rfl (iX3_pairsThatRest_100 rfl (iX3_pairsThatRest_103 ?_))))))))))))
              rw [e1]
              have := ih (some (.int 1)) (some (.int 1))
              rw [e2] at this
              exact this
          · refine iX3_pairsThatRest_72 (fun _ => ?_) (fun h => False.elim (by revert h; decide))
            exact no (fun z => hB z.2) _ _
        · refine iX3_pairsThatRest_67 (fun _ => ?_) (fun h => False.elim (by revert h; decide))
          exact no (fun z => hA z.1) _ _
      have stepA : ∀ A : Int32, (A = 1 ∧ g1 (j ^^^ 2) ≤ g1 j ∨ A = 0 ∧ ¬ g1 (j ^^^ 2) ≤ g1 j) → V kX3_pairsThatRest 37 [some (.ref 16), some (.int x), some (.int (rsS g1 g2 j).1), some (.int (rsS g1 g2 j).2), some (.int (nI j)), x5, x6] [.int A] (olW br bh g1 g2 c) 0 0 (qI Q) := by
        intro A hA
        refine iX3_pairsThatRest_37 rfl (iX3_pairsThatRest_39 (iX3_pairsThatRest_40 rfl rfl (iX3_pairsThatRest_43 (iX3_pairsThatRest_45 rfl rfl (by omega) (by decide) (iX3_pairsThatRest_46 (iX3_pairsThatRest_47 rfl rfl (iX3_pairsThatRest_50 (iX3_pairsThatRest_52 (iX3_pairsThatRest_53 (iX3_pairsThatRest_54 rfl hx.2.1 hx.2.2 (by decide) ?_))))))))))
        refine iX3_pairsThatRest_55 (fun q => ?_) (fun q => ?_)
        · refine iX3_pairsThatRest_62 ?_
          exact stepB A 0 hA (Or.inr ⟨rfl, i32_ltn q⟩)
        · refine iX3_pairsThatRest_58 (iX3_pairsThatRest_59 ?_)
          exact stepB A 1 hA (Or.inl ⟨rfl, i32_nlt q⟩)
      refine iX3_pairsThatRest_13 (iX3_pairsThatRest_14 rfl rfl (iX3_pairsThatRest_17 (iX3_pairsThatRest_19 rfl rfl (by omega) (by decide) (iX3_pairsThatRest_20 (iX3_pairsThatRest_21 rfl rfl (iX3_pairsThatRest_24 (iX3_pairsThatRest_26 (iX3_pairsThatRest_27 (iX3_pairsThatRest_28 rfl hx.1.1 hx.1.2 (by decide) ?_)))))))))
      refine iX3_pairsThatRest_29 (fun q => ?_) (fun q => ?_)
      · refine iX3_pairsThatRest_36 ?_
        exact stepA 0 (Or.inr ⟨rfl, i32_ltn q⟩)
      · refine iX3_pairsThatRest_32 (iX3_pairsThatRest_33 ?_)
        exact stepA 1 (Or.inl ⟨rfl, i32_nlt q⟩)
  exact key 0 (Nat.zero_le _) none none
theorem S_moths {m : Nat} (hc : CNk c n d k) (hm : m ≤ 60) (h : Q (mthR c n d k m w.toInt64 z.toInt64) (olW br bh g1 g2 c)) : CallI kX3_burntAmongMoths [.ref 16, .int (nI m), .int w, .int z] (olW br bh g1 g2 c) Q := by
  refine e_X3_burntAmongMoths ?_
  refine iX3_burntAmongMoths_0 (iX3_burntAmongMoths_1 (iX3_burntAmongMoths_2 rfl (iX3_burntAmongMoths_4 (iX3_burntAmongMoths_5 rfl rfl (iX3_burntAmongMoths_8 rfl rfl (iX3_burntAmongMoths_11 rfl (iX3_burntAmongMoths_13 (iX3_burntAmongMoths_14 rfl ?_))))))))
  have key : ∀ j, j ≤ m → V kX3_burntAmongMoths 16 [some (.ref 16), some (.int (nI m)), some (.int w), some (.int z), some (.long (mtX z.toInt64 j)), none, some (.int (mthS c d k w.toInt64 z.toInt64 j)), some (.int (nI j))] [] (olW br bh g1 g2 c) 0 0 (qI Q) := by
    refine dn m ?_
    intro j hj ih
    refine iX3_burntAmongMoths_16 (iX3_burntAmongMoths_18 ?_)
    refine iX3_burntAmongMoths_19 (fun g => ?_) (fun g => ?_)
    · have e := eq_of hj (by omega) g
      subst e
      refine iX3_burntAmongMoths_82 (iX3_burntAmongMoths_84 (iX3_burntAmongMoths_85 rfl rfl ?_))
      refine iX3_burntAmongMoths_88P plC (chW c) [.ref 16] (ptC br bh g1 g2 c) (by decide) rfl rfl (Nat.le_of_ble_eq_true rfl) (S_allWax hc.1.1 hc.1.2 ⟨rfl, ?_⟩)
      refine iX3_burntAmongMoths_91 (Nat.le_of_ble_eq_true rfl) ?_
      exact iX3_burntAmongMoths_94 h
    · have hlt := nlt_of (by omega) g
      have ih := ih hlt
      have e1 : nI j + 1 = nI (j + 1) := nI_1 j
      have e2 : mthS c d k w.toInt64 z.toInt64 (j + 1) = if lg_cmp (mtY z.toInt64 j) w.toInt64 < 0 then mthS c d k w.toInt64 z.toInt64 j else mthS c d k w.toInt64 z.toInt64 j + cFl c d k (c.1 3 + nI j) := rfl
      refine iX3_burntAmongMoths_22 (iX3_burntAmongMoths_24 (iX3_burntAmongMoths_27 (iX3_burntAmongMoths_28 (iX3_burntAmongMoths_31 (iX3_burntAmongMoths_32 (iX3_burntAmongMoths_35 (by decide) (iX3_burntAmongMoths_36 rfl ?_)))))))
      change V kX3_burntAmongMoths 38 [_, _, _, _, some (.long (mtX z.toInt64 (j + 1))), _, _, _] _ _ 0 0 _
      refine iX3_burntAmongMoths_38 (iX3_burntAmongMoths_40 (iX3_burntAmongMoths_43 (by decide) (iX3_burntAmongMoths_44 (iX3_burntAmongMoths_47 (by decide) (iX3_burntAmongMoths_48 (iX3_burntAmongMoths_49 (iX3_burntAmongMoths_50 ?_)))))))
      change V kX3_burntAmongMoths 51 _ [.int (lg_cmp (mtY z.toInt64 j) w.toInt64)] _ 0 0 _
      refine iX3_burntAmongMoths_51 (fun q => ?_) (fun q => ?_)
      · rw [if_pos q] at e2
        refine iX3_burntAmongMoths_76 rfl (iX3_burntAmongMoths_79 ?_)
        rw [e1]
        rw [e2] at ih
        exact ih
      · rw [if_neg q] at e2
        refine iX3_burntAmongMoths_54 (iX3_burntAmongMoths_56 (iX3_burntAmongMoths_57 rfl rfl (iX3_burntAmongMoths_60 (iX3_burntAmongMoths_61 rfl rfl (iX3_burntAmongMoths_64 rfl rfl (iX3_burntAmongMoths_67 (iX3_burntAmongMoths_69 ?_)))))))
        refine iX3_burntAmongMoths_70P plC (chW c) [.ref 16, .int (c.1 3 + nI j)] (ptC br bh g1 g2 c) (by decide) rfl rfl (Nat.le_of_ble_eq_true rfl) (S_flame hc.2.1.1 hc.2.1.2 hc.2.2.1 hc.2.2.2 ⟨rfl, ?_⟩)
        refine iX3_burntAmongMoths_73 (iX3_burntAmongMoths_74 rfl (iX3_burntAmongMoths_76 rfl (iX3_burntAmongMoths_79 ?_)))
        rw [e1]
        rw [e2] at ih
        exact ih
  exact key 0 (Nat.zero_le _)
end Look4
