theorem vall_eq (c : Ch) (k : Nat) (t : Int32) : vall c k t = l_sum (bVot c.2 0 t) k + l_sum (bVot c.2 1 t) k + l_sum (bVot c.2 2 t) k := by
  show ((0 + l_sum (bVot c.2 (nI 0) t) k) + l_sum (bVot c.2 (nI 1) t) k) + l_sum (bVot c.2 (nI 2) t) k = _
  rw [Int32.zero_add]
  rfl
theorem neg1_of {x : Int32} (h : 0 ≤ x) : ¬ x = -1 := fun e => by rw [e] at h; exact absurd h (by decide)
theorem quS_CF {c : Ch} {n d : Nat} (sm : Sm c n d) (k : Nat) (q : Int32) : ∀ i, i < 1000 → CF (quS c k q i).1 (quS c k q i).2 i
  | 0, _ => CF.zero
  | i + 1, h => by
    unfold quS
    split
    · exact (quS_CF sm k q i (by omega)).stay
    · exact (quS_CF sm k q i (by omega)).step (neg1_of (tm_ok sm (by omega)))
theorem rsS_CF (g1 g2 : Nat → Int32) : ∀ i, i < 5 → CF (rsS g1 g2 i).1 (rsS g1 g2 i).2 i
  | 0, _ => CF.zero
  | i + 1, h => by
    unfold rsS
    split
    · refine (rsS_CF g1 g2 i (by omega)).step ?_
      exact (by decide : ∀ i, i < 4 → ¬ 10 * (nI i / 2) + (nI i - nI i / 2 * 2) = -1) i (by omega)
    · exact (rsS_CF g1 g2 i (by omega)).stay
def wth (w a b : Int32) : Int32 := if b = 1 then w ||| ((1 : Int32) <<< (a &&& 31)) else w &&& (((1 : Int32) <<< (a &&& 31)) ^^^ -1)
theorem gmA : ∀ w, w < 32 → ∀ a, a < 5 → ∀ b, b < 5 → a ≠ b → ∀ i, i < 4 → wth (wth (nI w) (nI a) (nI i / 2)) (nI b) (nI i - nI i / 2 * 2) = prW (nI w) (nI a) (nI b) i := by decide +kernel
theorem gmB : ∀ i, i < 4 → 1 - nI i / 2 = nI (i ^^^ 2) / 2 ∧ nI i - nI i / 2 * 2 = nI (i ^^^ 2) - nI (i ^^^ 2) / 2 * 2 ∧ nI i / 2 = nI (i ^^^ 1) / 2 ∧ 1 - (nI i - nI i / 2 * 2) = nI (i ^^^ 1) - nI (i ^^^ 1) / 2 * 2 ∧ i ^^^ 2 < 4 ∧ i ^^^ 1 < 4 := by decide +kernel
section Ask4
variable {c : Ch} {R T K D s : Nat → Int32} {n d p u k i : Nat} {x y z t w : Int32} {Q : Int32 → Wd → Prop} {ws : Wd}
theorem N_quorum (r : Rl c R n d p u k) (sm : Sm c n d) (hb : ¬ ((1 ≤ x ∧ x ≤ 30) ∧ (0 ≤ y ∧ y ≤ 60) ∧ (0 ≤ z ∧ z ≤ 1)) → Q (-10) (mW R T K D (bump s 1))) (ok : (1 ≤ x ∧ x ≤ 30) → (0 ≤ z ∧ z ≤ 1) → ∀ m, m ≤ 60 → y = nI m → Q (if z = 0 then (quS c k x m).1 else (quS c k x m).2) (mW R T K D s)) : CallI kX11_quorum [.ref 16, .int x, .int y, .int z] (mW R T K D s) Q := by
  refine e_X11_quorum ?_
  have bad : ¬ ((1 ≤ x ∧ x ≤ 30) ∧ (0 ≤ y ∧ y ≤ 60) ∧ (0 ≤ z ∧ z ≤ 1)) → V kX11_quorum 34 [some (.ref 16), some (.int x), some (.int y), some (.int z), none, none, none, none, none] [] (mW R T K D s) 0 0 (qI Q) := by
    intro q
    refine iX11_quorum_34 (iX11_quorum_35 (iX11_quorum_37 rfl (Nat.le_of_ble_eq_true rfl) (M_isBad ?_)))
    exact iX11_quorum_40 (hb q)
  refine iX11_quorum_0 (iX11_quorum_1 (iX11_quorum_2 (iX11_quorum_3 ?_)))
  refine iX11_quorum_6 (Nat.le_of_ble_eq_true rfl) (S_in (lo := 1) (hi := 30) rfl rfl (fun a b => ?_) (fun a => ?_))
  · refine iX11_quorum_9 (fun h => False.elim (by revert h; decide)) (fun _ => (iX11_quorum_12 (iX11_quorum_13 (iX11_quorum_14 (iX11_quorum_15 ?_)))))
    refine iX11_quorum_18 (Nat.le_of_ble_eq_true rfl) (S_in (lo := 0) (hi := 60) rfl rfl (fun a2 b2 => ?_) (fun a2 => ?_))
    · refine iX11_quorum_21 (fun h => False.elim (by revert h; decide)) (fun _ => (iX11_quorum_24 (iX11_quorum_25 (iX11_quorum_26 (iX11_quorum_27 ?_)))))
      refine iX11_quorum_28 (Nat.le_of_ble_eq_true rfl) (S_in (lo := 0) (hi := 1) rfl rfl (fun a3 b3 => ?_) (fun a3 => ?_))
      · obtain ⟨m, hm, e⟩ := nI_of2 (M := 60) (n := 60) (by decide) (i32_len a2) b2
        have fin := ok ⟨a, b⟩ ⟨a3, b3⟩ m hm e
        subst e
        refine iX11_quorum_31 (fun _ => (iX11_quorum_41 (iX11_quorum_42 rfl (iX11_quorum_44 (iX11_quorum_45 rfl (iX11_quorum_47 (iX11_quorum_48 rfl ?_))))))) (fun h => False.elim (by revert h; decide))
        have key : ∀ j, j ≤ m → ∀ x7 x8, V kX11_quorum 50 [some (.ref 16), some (.int x), some (.int (nI m)), some (.int z), some (.int (quS c k x j).1), some (.int (quS c k x j).2), some (.int (nI j)), x7, x8] [] (mW R T K D s) 0 0 (qI Q) := by
          refine dn m ?_
          intro j hj ih x7 x8
          refine iX11_quorum_50 (iX11_quorum_52 ?_)
          refine iX11_quorum_53 (fun q => ?_) (fun q => ?_)
          · have e := eq_of hj (by omega) q
            subst e
            refine iX11_quorum_141 ?_
            refine iX11_quorum_142 (fun q2 => ?_) (fun q2 => ?_)
            · rw [if_neg q2] at fin
              refine iX11_quorum_150 ?_
              exact iX11_quorum_152 fin
            · rw [if_pos q2] at fin
              refine iX11_quorum_145 (iX11_quorum_147 ?_)
              exact iX11_quorum_152 fin
          · have hlt := nlt_of (by omega) q
            have e1 : nI j + 1 = nI (j + 1) := nI_1 j
            have cf := (quS_CF sm k x j (by omega)).iff (by omega)
            have e2 : quS c k x (j + 1) = if vall c k (c.1 3 + nI j) < x then quS c k x j else ((quS c k x j).1 + 1, if (quS c k x j).2 = -1 then c.1 3 + nI j else (quS c k x j).2) := rfl
            have ht := tm_ok (j := j) sm (by omega)
            refine iX11_quorum_56 (iX11_quorum_57 rfl rfl (iX11_quorum_60 (iX11_quorum_61 (j := 2) rfl rfl (by decide) (by decide) ?_)))
            rw [r.e2]
            refine iX11_quorum_62 (iX11_quorum_64 (iX11_quorum_65 rfl (iX11_quorum_67 (iX11_quorum_68 (iX11_quorum_69 (iX11_quorum_71 rfl (Nat.le_of_ble_eq_true rfl) (M_votesOf r ht (iX11_quorum_74 (iX11_quorum_75 (iX11_quorum_76 (iX11_quorum_78 rfl (Nat.le_of_ble_eq_true rfl) (M_votesOf r ht (iX11_quorum_81 (iX11_quorum_82 (iX11_quorum_83 (iX11_quorum_84 (iX11_quorum_86 rfl (Nat.le_of_ble_eq_true rfl) (M_votesOf r ht (iX11_quorum_89 (iX11_quorum_90 ?_))))))))))))))))))))
            rw [← vall_eq]
            refine iX11_quorum_91 (fun q2 => ?_) (fun q2 => ?_)
            · rw [if_pos q2] at e2
              have ih := ih hlt (some (.int (c.1 3 + nI j))) (some (.int 0))
              rw [e2] at ih
              refine iX11_quorum_98 (iX11_quorum_99 rfl (iX11_quorum_101 (iX11_quorum_103 (fun _ => (iX11_quorum_116 (iX11_quorum_118 rfl (iX11_quorum_120 (iX11_quorum_122 (iX11_quorum_124 (fun _ => (iX11_quorum_131 ?_)) (fun h => False.elim (by revert h; decide)))))))) (fun h => False.elim (by revert h; decide)))))
              refine iX11_quorum_132 ?_
              rw [Int32.add_zero]
              refine iX11_quorum_133 rfl (iX11_quorum_135 rfl (iX11_quorum_138 ?_))
              rw [e1]
              exact ih
            · rw [if_neg q2] at e2
              have ih := ih hlt (some (.int (c.1 3 + nI j))) (some (.int 1))
              rw [e2] at ih
              refine iX11_quorum_94 (iX11_quorum_95 (iX11_quorum_99 rfl (iX11_quorum_101 (iX11_quorum_103 (fun h => False.elim (by revert h; decide)) (fun _ => (iX11_quorum_106 ?_))))))
              refine iX11_quorum_108 (fun q3 => ?_) (fun q3 => ?_)
              · rw [if_neg (fun z => q3 (cf.mpr z))] at ih
                refine iX11_quorum_116 (iX11_quorum_118 rfl (iX11_quorum_120 (iX11_quorum_122 (iX11_quorum_124 (fun h => False.elim (by revert h; decide)) (fun _ => (iX11_quorum_127 (iX11_quorum_128 (iX11_quorum_132 (iX11_quorum_133 rfl (iX11_quorum_135 rfl (iX11_quorum_138 ?_)))))))))))
                rw [e1]
                exact ih
              · rw [if_pos (cf.mp q3)] at ih
                refine iX11_quorum_111 (iX11_quorum_113 (iX11_quorum_118 rfl (iX11_quorum_120 (iX11_quorum_122 (iX11_quorum_124 (fun h => False.elim (by revert h; decide)) (fun _ => (iX11_quorum_127 (iX11_quorum_128 (iX11_quorum_132 (iX11_quorum_133 rfl (iX11_quorum_135 rfl (iX11_quorum_138 ?_))))))))))))
                rw [e1]
                exact ih
        exact key 0 (Nat.zero_le _) none none
      · refine iX11_quorum_31 (fun h => False.elim (by revert h; decide)) (fun _ => ?_)
        exact bad (fun q => a3 q.2.2)
    · refine iX11_quorum_21 (fun _ => ?_) (fun h => False.elim (by revert h; decide))
      exact bad (fun q => a2 q.2.1)
  · refine iX11_quorum_9 (fun _ => ?_) (fun h => False.elim (by revert h; decide))
    exact bad (fun q => a q.1)
theorem N_race (r : Rl c R n d p u k) (sm : Sm c n d) (hb : ¬ ((1 ≤ x ∧ x ≤ 9) ∧ (1 ≤ y ∧ y ≤ 9)) → Q (-2) (mW R T K D (bump s 1))) (ok : (1 ≤ x ∧ x ≤ 9) → (1 ≤ y ∧ y ≤ 9) → Q (raceR c n d k x y) (mW R T K D s)) : CallI kX11_race [.ref 16, .int x, .int y] (mW R T K D s) Q := by
  refine e_X11_race ?_
  have bad : ¬ ((1 ≤ x ∧ x ≤ 9) ∧ (1 ≤ y ∧ y ≤ 9)) → V kX11_race 24 [some (.ref 16), some (.int x), some (.int y), none, none] [] (mW R T K D s) 0 0 (qI Q) := by
    intro q
    refine iX11_race_24 (iX11_race_25 (iX11_race_27 rfl (Nat.le_of_ble_eq_true rfl) (M_isBad ?_)))
    exact iX11_race_30 (hb q)
  refine iX11_race_0 (iX11_race_1 (iX11_race_2 (iX11_race_3 ?_)))
  refine iX11_race_6 (Nat.le_of_ble_eq_true rfl) (S_in (lo := 1) (hi := 9) rfl rfl (fun a b => ?_) (fun a => ?_))
  · refine iX11_race_9 (fun h => False.elim (by revert h; decide)) (fun _ => (iX11_race_12 (iX11_race_13 (iX11_race_14 (iX11_race_15 ?_)))))
    refine iX11_race_18 (Nat.le_of_ble_eq_true rfl) (S_in (lo := 1) (hi := 9) rfl rfl (fun a2 b2 => ?_) (fun a2 => ?_))
    · have ok := ok ⟨a, b⟩ ⟨a2, b2⟩
      have hy0 : ¬ y = 0 := fun e => by subst e; exact absurd a2 (by decide)
      unfold raceR at ok
      have fin : ∀ m, (m = -1 ∧ tillO c n d k = 201) ∨ (¬ m = -1 ∧ tillO c n d k = m ∧ ¬ 200 < m) → V kX11_race 53 [some (.ref 16), some (.int x), some (.int y), none, none] [.int m] (mW R T K D s) 0 0 (qI Q) := by
        intro m hm
        refine iX11_race_53 rfl (iX11_race_54 (iX11_race_55 rfl rfl (iX11_race_58 (iX11_race_59 (j := 0) rfl rfl (by decide) (by decide) ?_))))
        rw [r.e0]
        refine iX11_race_60 (iX11_race_61 (iX11_race_62 (iX11_race_63 (iX11_race_64 (iX11_race_65 (iX11_race_66 (iX11_race_67 hy0 (iX11_race_68 rfl (iX11_race_70 (iX11_race_71 ?_))))))))))
        generalize (c.1 0 * x + y - 1) / y = o at ok
        refine iX11_race_72 (fun q => ?_) (fun q => ?_)
        · have ht : tillO c n d k = 201 := by
            rcases hm with h | h
            · exact h.2
            · exact absurd q h.1
          rw [ht] at ok
          refine iX11_race_83 (iX11_race_84 (iX11_race_85 (fun _ => (iX11_race_92 (iX11_race_94 ?_))) (fun h => False.elim (by exact h q))))
          refine iX11_race_97 (fun q2 => ?_) (fun q2 => ?_)
          · rw [if_pos ⟨by decide, q2⟩] at ok
            refine iX11_race_104 ?_
            exact iX11_race_105 ok
          · have hne : ¬ (201 : Int32) = o := fun e => q2 (by rw [← e]; decide)
            have hlt : ¬ (201 : Int32) < o := fun e => q2 (Int32.lt_trans (by decide) e)
            rw [if_neg (fun z => q2 z.2), if_neg hne, if_neg hlt] at ok
            refine iX11_race_100 (iX11_race_101 ?_)
            exact iX11_race_105 ok
        · have ht : tillO c n d k = m ∧ ¬ 200 < m := by
            rcases hm with h | h
            · exact absurd h.1 q
            · exact h.2
          rw [ht.1, if_neg (fun z => ht.2 z.1)] at ok
          refine iX11_race_75 (iX11_race_77 ?_)
          refine iX11_race_80 (fun q2 => ?_) (fun q2 => ?_)
          · refine iX11_race_106 (iX11_race_107 ?_)
            refine iX11_race_109 (fun q3 => ?_) (fun q3 => ?_)
            · refine iX11_race_116 (iX11_race_118 ?_)
              refine iX11_race_119 (fun q4 => ?_) (fun q4 => ?_)
              · have e : m = o := Int32.le_antisymm q4 q3
                rw [if_pos e] at ok
                refine iX11_race_126 ?_
                exact iX11_race_127 ok
              · have hne : ¬ m = o := fun e => q4 (by rw [e]; exact Int32.le_refl _)
                rw [if_neg hne, if_neg (i32_len q3)] at ok
                refine iX11_race_122 (iX11_race_123 ?_)
                exact iX11_race_127 ok
            · have hlt := i32_nle q3
              have hne : ¬ m = o := fun e => by rw [e] at hlt; exact Int32.lt_irrefl hlt
              rw [if_neg hne, if_pos hlt] at ok
              refine iX11_race_112 (iX11_race_113 ?_)
              exact iX11_race_127 ok
          · have hlt : m < o := Int32.lt_of_le_of_lt (i32_nlt ht.2) (i32_nle q2)
            have hne : ¬ m = o := fun e => by rw [e] at hlt; exact Int32.lt_irrefl hlt
            rw [if_neg hne, if_pos hlt] at ok
            refine iX11_race_83 (iX11_race_84 (iX11_race_85 (fun h => False.elim (by exact q h)) (fun _ => (iX11_race_88 (iX11_race_89 ?_)))))
            exact iX11_race_105 ok
      refine iX11_race_21 (fun _ => (iX11_race_31 (iX11_race_32 rfl rfl (iX11_race_35 (iX11_race_36 (j := 1) rfl rfl (by decide) (by decide) (iX11_race_37 (iX11_race_38 (iX11_race_39 rfl (Nat.le_of_ble_eq_true rfl) (M_allWax r (Hw0 c) ?_))))))))) (fun h => False.elim (by revert h; decide))
      rw [r.e1]
      refine iX11_race_42 (fun q => ?_) (fun q => ?_)
      · refine iX11_race_49 (iX11_race_50 rfl (Nat.le_of_ble_eq_true rfl) (M_outIn r sm ?_))
        refine fin _ ?_
        have g : ¬ l_sum (c.2 0) n ≤ c.1 1 := fun a => q (Int32.le_antisymm (i32_nlt sm.2.2) a)
        rcases mtS_or (bhd c n d k (c.1 5)) (l_sum (c.2 0) n) 200 0 with h | ⟨j, h1, h2⟩
        · have h : minT c n d k (c.1 5) (l_sum (c.2 0) n) = -1 := h
          refine Or.inl ⟨h, ?_⟩
          unfold tillO
          rw [if_neg g, if_pos h]
        · have h2 : minT c n d k (c.1 5) (l_sum (c.2 0) n) = nI (j + 1) := h2
          have h3 : ¬ minT c n d k (c.1 5) (l_sum (c.2 0) n) = -1 := by rw [h2]; exact nI_nm1 (by omega)
          refine Or.inr ⟨h3, ?_, ?_⟩
          · unfold tillO
            rw [if_neg g, if_neg h3]
          · rw [h2]
            exact nI_nlt (a := 200) (by omega) (by omega)
      · refine iX11_race_45 (iX11_race_46 ?_)
        refine fin _ (Or.inr ⟨by decide, ?_, by decide⟩)
        unfold tillO
        rw [if_pos (by rw [q]; exact Int32.le_refl _)]
    · refine iX11_race_21 (fun h => False.elim (by revert h; decide)) (fun _ => ?_)
      exact bad (fun q => a2 q.2)
  · refine iX11_race_9 (fun _ => ?_) (fun h => False.elim (by revert h; decide))
    exact bad (fun q => a q.1)
theorem M_gainOf (r : Rl c R n d p u k) (sm : Sm c n d) (h : Q (gn c n d k p w x) (mW R T K D s)) : CallI kX11_gainOf [.ref 16, .int x, .int w] (mW R T K D s) Q := by
  refine e_X11_gainOf ?_
  have hp9 := r.ok.2.2.1.1.2
  refine iX11_gainOf_0 (iX11_gainOf_1 rfl (iX11_gainOf_2 (iX11_gainOf_3 rfl ?_)))
  have key : ∀ j, j ≤ p → ∀ x5 x6 x7, V kX11_gainOf 5 [some (.ref 16), some (.int x), some (.int w), some (.int (l_sum (gnI c n d k w x) j)), some (.int (nI j)), x5, x6, x7] [] (mW R T K D s) 0 0 (qI Q) := by
    refine dn p ?_
    intro j hj ih x5 x6 x7
    refine iX11_gainOf_5 (iX11_gainOf_7 (iX11_gainOf_8 rfl rfl (iX11_gainOf_11 (iX11_gainOf_13 (j := 35) rfl rfl (by decide) (by decide) ?_))))
    rw [r.e35, r.ok.2.2.1.1.1]
    refine iX11_gainOf_14 (fun q => ?_) (fun q => ?_)
    · have e := eq_of hj (by omega) q
      subst e
      refine iX11_gainOf_97 ?_
      exact iX11_gainOf_98 h
    · have hlt := nlt_of (by omega) q
      have e1 : nI j + 1 = nI (j + 1) := nI_1 j
      have hs1 := (r.ok.2.2.1.at r.ok.2.1.1.2 hlt).1
      have e2 : l_sum (gnI c n d k w x) (j + 1) = l_sum (gnI c n d k w x) j + gnI c n d k w x j := rfl
      have fin : ∀ v x5 x6 x7, v = gnI c n d k w x j → V kX11_gainOf 89 [some (.ref 16), some (.int x), some (.int w), some (.int (l_sum (gnI c n d k w x) j)), some (.int (nI j)), x5, x6, x7] [.int v, .int (l_sum (gnI c n d k w x) j)] (mW R T K D s) 0 0 (qI Q) := by
        intro v x5 x6 x7 hv
        subst hv
        have ih := ih hlt x5 x6 x7
        refine iX11_gainOf_89 (iX11_gainOf_90 rfl (iX11_gainOf_91 rfl (iX11_gainOf_94 ?_)))
        rw [e1]
        exact ih
      refine iX11_gainOf_17 (iX11_gainOf_18 rfl rfl (iX11_gainOf_21 (iX11_gainOf_23 (iX11_gainOf_24 (iX11_gainOf_26 (iX11_gainOf_27 (iX11_gainOf_28 rfl (ix2 36 3 j) (by omega) (by decide) ?_)))))))
      rw [r.p0 j hlt]
      refine iX11_gainOf_29 rfl (iX11_gainOf_31 (iX11_gainOf_32 (iX11_gainOf_33 (iX11_gainOf_35 rfl (Nat.le_of_ble_eq_true rfl) (M_sliceOf r hlt (iX11_gainOf_38 (iX11_gainOf_39 rfl (Nat.le_of_ble_eq_true rfl) (M_fallsBy r sm (Nat.le_of_lt hs1) (iX11_gainOf_42 rfl (iX11_gainOf_44 (iX11_gainOf_46 ?_)))))))))))
      refine iX11_gainOf_47 (fun q2 => ?_) (fun q2 => ?_)
      · refine iX11_gainOf_65 (iX11_gainOf_66 rfl (iX11_gainOf_68 (iX11_gainOf_69 (iX11_gainOf_71 (fun h => False.elim (by revert h; decide)) (fun _ => (iX11_gainOf_74 (iX11_gainOf_75 ?_)))))))
        refine fin _ _ _ _ ?_
        unfold gnI fallP
        rw [if_pos q2]
      · refine iX11_gainOf_50 (iX11_gainOf_51 (iX11_gainOf_53 rfl (Nat.le_of_ble_eq_true rfl) (M_houseIn r ((fall_or sm).resolve_left q2) (iX11_gainOf_56 ?_))))
        refine iX11_gainOf_58 (fun q3 => ?_) (fun q3 => ?_)
        · refine iX11_gainOf_65 (iX11_gainOf_66 rfl (iX11_gainOf_68 (iX11_gainOf_69 (iX11_gainOf_71 (fun h => False.elim (by revert h; decide)) (fun _ => (iX11_gainOf_74 (iX11_gainOf_75 ?_)))))))
          refine fin _ _ _ _ ?_
          unfold gnI fallP
          rw [if_neg q2, if_neg q3]
        · refine iX11_gainOf_61 (iX11_gainOf_62 (iX11_gainOf_66 rfl (iX11_gainOf_68 (iX11_gainOf_69 (iX11_gainOf_71 (fun _ => (iX11_gainOf_78 (iX11_gainOf_80 ?_))) (fun h => False.elim (by revert h; decide)))))))
          refine iX11_gainOf_81 (fun q4 => ?_) (fun q4 => ?_)
          · refine iX11_gainOf_88 ?_
            refine fin _ _ _ _ ?_
            unfold gnI fallP
            rw [if_neg q2, if_pos q3, if_neg q4]
          · refine iX11_gainOf_84 (iX11_gainOf_85 ?_)
            refine fin _ _ _ _ ?_
            unfold gnI fallP
            rw [if_neg q2, if_pos q3, if_pos q4]
  exact key 0 (Nat.zero_le _) none none none
theorem M_with {a b : Int32} (h : Q (wth w a b) ws) : CallI kX11_with [.int w, .int a, .int b] ws Q := by
  refine e_X11_with ?_
  unfold wth at h
  refine iX11_with_0 (iX11_with_1 ?_)
  refine iX11_with_2 (fun q => ?_) (fun q => ?_)
  · rw [if_neg q] at h
    refine iX11_with_13 (iX11_with_14 (iX11_with_15 (iX11_with_16 (iX11_with_17 (iX11_with_18 (iX11_with_19 ?_))))))
    exact iX11_with_20 h
  · rw [if_pos q] at h
    refine iX11_with_5 (iX11_with_6 (iX11_with_7 (iX11_with_8 (iX11_with_9 (iX11_with_10 ?_)))))
    exact iX11_with_20 h
end Ask4
