abbrev ush (x y : Int32) : Int32 := (x.toUInt32 >>> (y.toUInt32 &&& Int32.toUInt32 31)).toInt32
def bc1 (x : Int32) : Int32 := x - (ush x 1 &&& 1431655765)
def bc2 (x : Int32) : Int32 := (x &&& 858993459) + (ush x 2 &&& 858993459)
def bc3 (x : Int32) : Int32 := (x + ush x 4) &&& 252645135
def bc4 (x : Int32) : Int32 := x + ush x 8
def bc5 (x : Int32) : Int32 := x + ush x 16
def bcF (x : Int32) : Int32 := bc5 (bc4 (bc3 (bc2 (bc1 x)))) &&& 63
theorem S_bitCount {x : Int32} {ws : Wd} {Q : Int32 → Wd → Prop} (h : Q (bcF x) ws) : CallI kJ6_bitCount_0f7a4 [.int x] ws Q := by
  refine e_J6_bitCount_0f7a4 ?_
  refine iJ6_bitCount_0f7a4_0 (iJ6_bitCount_0f7a4_1 (iJ6_bitCount_0f7a4_2 (iJ6_bitCount_0f7a4_3 (iJ6_bitCount_0f7a4_4 (iJ6_bitCount_0f7a4_7 (iJ6_bitCount_0f7a4_8 (iJ6_bitCount_0f7a4_9 (iJ6_bitCount_0f7a4_10 (iJ6_bitCount_0f7a4_11 (iJ6_bitCount_0f7a4_14 (iJ6_bitCount_0f7a4_15 (iJ6_bitCount_0f7a4_16 (iJ6_bitCount_0f7a4_17 (iJ6_bitCount_0f7a4_18 (iJ6_bitCount_0f7a4_21 (iJ6_bitCount_0f7a4_22 (iJ6_bitCount_0f7a4_23 (iJ6_bitCount_0f7a4_24 (iJ6_bitCount_0f7a4_25 (iJ6_bitCount_0f7a4_26 (iJ6_bitCount_0f7a4_27 (iJ6_bitCount_0f7a4_28 (iJ6_bitCount_0f7a4_29 (iJ6_bitCount_0f7a4_32 (iJ6_bitCount_0f7a4_33 (iJ6_bitCount_0f7a4_34 (iJ6_bitCount_0f7a4_35 (iJ6_bitCount_0f7a4_36 (iJ6_bitCount_0f7a4_38 (iJ6_bitCount_0f7a4_39 (iJ6_bitCount_0f7a4_40 (iJ6_bitCount_0f7a4_41 (iJ6_bitCount_0f7a4_42 (iJ6_bitCount_0f7a4_43 (iJ6_bitCount_0f7a4_45 (iJ6_bitCount_0f7a4_46 (iJ6_bitCount_0f7a4_47 (iJ6_bitCount_0f7a4_48 (iJ6_bitCount_0f7a4_49 (iJ6_bitCount_0f7a4_51 ?_))))))))))))))))))))))))))))))))))))))))
  exact iJ6_bitCount_0f7a4_52 h
theorem sh1 {d : Nat} (h : d ≤ 5) : (1 : Int32) <<< (nI d &&& 31) = nI (2 ^ d) := by
  match d, h with
  | 0, _ => decide
  | 1, _ => decide
  | 2, _ => decide
  | 3, _ => decide
  | 4, _ => decide
  | 5, _ => decide
  | d + 6, h => exact absurd h (by omega)
theorem pow5 {d : Nat} (h : d ≤ 5) : 2 ^ d ≤ 32 := by
  have := Nat.pow_le_pow_right (show 0 < 2 by decide) h
  exact this
def PinOk (c : Ch) (n p : Nat) : Prop := (c.1 6 = nI p ∧ p ≤ 9) ∧ ∀ i, i < p → ∃ s, s < n ∧ c.2 3 i = nI s
abbrev slo (c : Ch) (i : Nat) : Nat := (c.2 3 i).toNatClampNeg
theorem PinOk.at {c : Ch} {n p i : Nat} (hn : n ≤ 20) (h : PinOk c n p) (hi : i < p) : slo c i < n ∧ c.2 3 i = nI (slo c i) := by
  obtain ⟨s, h1, h2⟩ := h.2 i hi
  have : slo c i = s := by unfold slo; rw [h2, nI_clamp (by omega)]
  rw [this]
  exact ⟨h1, h2⟩
noncomputable def bpG (c : Ch) (n d k : Nat) (x : Int32) (i : Nat) : Int32 := if mOf c (minT c n d k (c.1 5) (l_sum (c.2 0) i)) = -1 then 0 else if hs c k (mOf c (minT c n d k (c.1 5) (l_sum (c.2 0) i))) = x then 1 else 0
noncomputable def bpS (c : Ch) (n d k : Nat) (x : Int32) : Nat → Int32 × Int32
  | 0 => (-1, -1)
  | i + 1 => if past c i then bpS c n d k x i else if bpG c n d k x i ≤ (bpS c n d k x i).2 then bpS c n d k x i else (nI i, bpG c n d k x i)
noncomputable def bpR (c : Ch) (n d k : Nat) (x y z : Int32) : Int32 := if (bpS c n d k x n).1 = -1 then -1 else if z = 0 then (bpS c n d k x n).2 * y else if y < z then -1 else (bpS c n d k x n).1
section Look2
variable {br bh g1 g2 : Nat → Int32} {c : Ch} {n s d p u k i : Nat} {w x y z b wax t : Int32} {Q : Int32 → Wd → Prop} {R : Wd → Prop}
theorem S_bestPins (hc : CNk c n d k) (h : ∀ br bh, Q (bpR c n d k x y z) (olW br bh g1 g2 c)) : CallI kX3_bestPins [.ref 16, .int x, .int y, .int z] (olW br bh g1 g2 c) Q := by
  refine e_X3_bestPins ?_
  refine iX3_bestPins_0 (iX3_bestPins_1 rfl (Nat.le_of_ble_eq_true rfl) (S_feelBreath hc.2.2.1 hc.2.2.2 (fun br hbr => ?_)))
  refine iX3_bestPins_4 (iX3_bestPins_5 (iX3_bestPins_6 rfl rfl (iX3_bestPins_9 rfl rfl ?_)))
  refine iX3_bestPins_12 rfl (Nat.le_of_ble_eq_true rfl) (S_lookAhead hc hbr (fun bh hbh => ?_))
  have h := h br bh
  have hn2 := hc.1.2
  refine iX3_bestPins_15 (iX3_bestPins_16 rfl (iX3_bestPins_18 (iX3_bestPins_19 rfl (iX3_bestPins_21 (iX3_bestPins_22 rfl ?_)))))
  have key : ∀ i, i ≤ n → ∀ x7 x8, V kX3_bestPins 24 [some (.ref 16), some (.int x), some (.int y), some (.int z), some (.int (bpS c n d k x i).1), some (.int (bpS c n d k x i).2), some (.int (nI i)), x7, x8] [] (olW br bh g1 g2 c) 0 0 (qI Q) := by
    refine dn n ?_
    intro i hi ih x7 x8
    refine iX3_bestPins_24 (iX3_bestPins_26 (iX3_bestPins_27 rfl rfl (iX3_bestPins_30 rfl rfl ?_)))
    rw [hc.1.1]
    refine iX3_bestPins_33 (fun g => ?_) (fun g => ?_)
    · have e := eq_of hi (by omega) g
      subst e
      unfold bpR at h
      refine iX3_bestPins_113 (iX3_bestPins_115 ?_)
      refine iX3_bestPins_116 (fun q => ?_) (fun q => ?_)
      · rw [if_neg q] at h
        refine iX3_bestPins_121 ?_
        refine iX3_bestPins_122 (fun q2 => ?_) (fun q2 => ?_)
        · rw [if_neg q2] at h
          refine iX3_bestPins_130 (iX3_bestPins_131 ?_)
          refine iX3_bestPins_132 (fun q3 => ?_) (fun q3 => ?_)
          · rw [if_pos q3] at h
            refine iX3_bestPins_140 ?_
            exact iX3_bestPins_141 h
          · rw [if_neg q3] at h
            refine iX3_bestPins_135 (iX3_bestPins_137 ?_)
            exact iX3_bestPins_141 h
        · rw [if_pos q2] at h
          refine iX3_bestPins_125 (iX3_bestPins_127 (iX3_bestPins_128 ?_))
          exact iX3_bestPins_129 h
      · rw [if_pos q] at h
        refine iX3_bestPins_119 ?_
        exact iX3_bestPins_120 h
    · have hlt := nlt_of (by omega) g
      have ih := ih hlt
      have e1 : nI i + 1 = nI (i + 1) := nI_1 i
      have e2 : bpS c n d k x (i + 1) = if past c i then bpS c n d k x i else if bpG c n d k x i ≤ (bpS c n d k x i).2 then bpS c n d k x i else (nI i, bpG c n d k x i) := rfl
      refine iX3_bestPins_36 (iX3_bestPins_37 rfl rfl (iX3_bestPins_40 ?_))
      refine iX3_bestPins_42P plC (chW c) [.ref 16, .int (nI i)] (ptC br bh g1 g2 c) (by decide) rfl rfl (Nat.le_of_ble_eq_true rfl) (S_isPast hc.1.1 hc.1.2 (by omega) (fun q => ⟨rfl, ?_⟩) (fun q => ⟨rfl, ?_⟩))
      · rw [if_pos q] at e2
        refine iX3_bestPins_45 (fun _ => (iX3_bestPins_107 rfl (iX3_bestPins_110 ?_))) (fun h => False.elim (by revert h; decide))
        rw [e1]
        have := ih x7 x8
        rw [e2] at this
        exact this
      · rw [if_neg q] at e2
        refine iX3_bestPins_45 (fun h => False.elim (by revert h; decide)) (fun _ => (iX3_bestPins_48 (iX3_bestPins_49 (iX3_bestPins_50 rfl rfl (iX3_bestPins_53 ?_)))))
        refine iX3_bestPins_55P plC (chW c) [.ref 16, .int (nI i)] (ptC br bh g1 g2 c) (by decide) rfl rfl (Nat.le_of_ble_eq_true rfl) (S_waxAbove hc.1.1 hc.1.2 (by omega) ⟨rfl, ?_⟩)
        refine iX3_bestPins_58 rfl (Nat.le_of_ble_eq_true rfl) (S_minuteOf hbh (iX3_bestPins_61 rfl ?_))
        generalize hm : mOf c (mtS (bhd c n d k (c.1 5)) (l_sum (c.2 0) i) 200 0) = m
        have hm2 : mOf c (minT c n d k (c.1 5) (l_sum (c.2 0) i)) = m := hm
        have fin : ∀ v, v = bpG c n d k x i → V kX3_bestPins 90 [some (.ref 16), some (.int x), some (.int y), some (.int z), some (.int (bpS c n d k x i).1), some (.int (bpS c n d k x i).2), some (.int (nI i)), some (.int m), x8] [.int v] (olW br bh g1 g2 c) 0 0 (qI Q) := by
          intro v hv
          subst hv
          refine iX3_bestPins_90 rfl (iX3_bestPins_92 (iX3_bestPins_94 ?_))
          refine iX3_bestPins_96 (fun q4 => ?_) (fun q4 => ?_)
          · rw [if_pos q4] at e2
            refine iX3_bestPins_107 rfl (iX3_bestPins_110 ?_)
            rw [e1]
            have := ih (some (.int m)) (some (.int (bpG c n d k x i)))
            rw [e2] at this
            exact this
          · rw [if_neg q4] at e2
            refine iX3_bestPins_99 (iX3_bestPins_101 rfl (iX3_bestPins_103 (iX3_bestPins_105 rfl (iX3_bestPins_107 rfl (iX3_bestPins_110 ?_)))))
            rw [e1]
            have := ih (some (.int m)) (some (.int (bpG c n d k x i)))
            rw [e2] at this
            exact this
        refine iX3_bestPins_63 (iX3_bestPins_65 ?_)
        refine iX3_bestPins_66 (fun q2 => ?_) (fun q2 => ?_)
        · refine iX3_bestPins_89 ?_
          refine fin _ ?_
          unfold bpG
          rw [hm2, if_pos q2]
        · refine iX3_bestPins_69 (iX3_bestPins_70 rfl rfl (iX3_bestPins_73 rfl rfl (iX3_bestPins_76 ?_)))
          refine iX3_bestPins_78P plOB (bnW (c.1 8) c.2) [.ref 16, .int m] (ptOB br bh g1 g2 c) (by decide) rfl rfl (Nat.le_of_ble_eq_true rfl) (S_strongest hc.2.2.2 hc.2.2.1 ⟨rfl, ?_⟩)
          refine iX3_bestPins_81 ?_
          refine iX3_bestPins_82 (fun q3 => ?_) (fun q3 => ?_)
          · refine iX3_bestPins_89 ?_
            refine fin _ ?_
            unfold bpG
            rw [hm2, if_neg q2, if_neg (show ¬ hs c k m = x from q3)]
          · refine iX3_bestPins_85 (iX3_bestPins_86 ?_)
            refine fin _ ?_
            unfold bpG
            rw [hm2, if_neg q2, if_pos (show hs c k m = x from q3)]
  exact key 0 (Nat.zero_le _) none none
theorem S_fallsNoSooner (hc : CNk c n d k) (hi : i < 9) (hs1 : s < n) (he : c.2 3 i = nI s) (hbr : ∀ j, j < 200 → br j = brt c k j) (h1 : (fall c n d k w s = -1 ∨ t ≤ fall c n d k w s) → ∀ bh, Q 1 (olW br bh g1 g2 c)) (h0 : ¬ (fall c n d k w s = -1 ∨ t ≤ fall c n d k w s) → ∀ bh, Q 0 (olW br bh g1 g2 c)) : CallI kX3_fallsNoSooner [.ref 16, .int (nI i), .int t, .int w] (olW br bh g1 g2 c) Q := by
  refine e_X3_fallsNoSooner ?_
  refine iX3_fallsNoSooner_0 (iX3_fallsNoSooner_1 (iX3_fallsNoSooner_2 rfl (Nat.le_of_ble_eq_true rfl) (S_lookAhead hc hbr (fun bh hbh => ?_))))
  refine iX3_fallsNoSooner_5 (iX3_fallsNoSooner_6 (iX3_fallsNoSooner_7 rfl (Nat.le_of_ble_eq_true rfl) (S_foreseenFall hc hi hs1 he hbh (iX3_fallsNoSooner_10 rfl (iX3_fallsNoSooner_12 (iX3_fallsNoSooner_14 ?_))))))
  refine iX3_fallsNoSooner_15 (fun g => ?_) (fun g => ?_)
  · refine iX3_fallsNoSooner_24 (iX3_fallsNoSooner_25 ?_)
    exact iX3_fallsNoSooner_29 rfl (h1 (Or.inl g) bh)
  · refine iX3_fallsNoSooner_18 (iX3_fallsNoSooner_20 ?_)
    refine iX3_fallsNoSooner_21 (fun q => ?_) (fun q => ?_)
    · refine iX3_fallsNoSooner_28 ?_
      exact iX3_fallsNoSooner_29 rfl (h0 (fun z => z.elim g (i32_ltn q)) bh)
    · refine iX3_fallsNoSooner_24 (iX3_fallsNoSooner_25 ?_)
      exact iX3_fallsNoSooner_29 rfl (h1 (Or.inr (i32_nlt q)) bh)
abbrev shA (w : Int32) (i : Nat) : Prop := (nI i &&& (w ^^^ -1)) = 0
abbrev shB (b : Int32) (i : Nat) : Prop := b = -1 ∨ bcF (nI i) < bcF b
abbrev shC (c : Ch) (n d k s : Nat) (t : Int32) (i : Nat) : Prop := fall c n d k (c.1 5 &&& (nI i ^^^ -1)) s = -1 ∨ t ≤ fall c n d k (c.1 5 &&& (nI i ^^^ -1)) s
noncomputable def shS (c : Ch) (n d k s : Nat) (t : Int32) : Nat → Int32
  | 0 => -1
  | i + 1 => if shA (c.1 5) i ∧ shB (shS c n d k s t i) i ∧ shC c n d k s t i then nI i else shS c n d k s t i
theorem S_fewestToShut (hc : CNk c n d k) (hi : i < 9) (hs1 : s < n) (he : c.2 3 i = nI s) (h : ∀ br bh, Q (shS c n d k s t (2 ^ d)) (olW br bh g1 g2 c)) : CallI kX3_fewestToShut [.ref 16, .int (nI i), .int t] (olW br bh g1 g2 c) Q := by
  refine e_X3_fewestToShut ?_
  refine iX3_fewestToShut_0 (iX3_fewestToShut_1 rfl (Nat.le_of_ble_eq_true rfl) (S_feelBreath hc.2.2.1 hc.2.2.2 (fun br hbr => ?_)))
  have hp5 := pow5 hc.2.1.2
  refine iX3_fewestToShut_4 (iX3_fewestToShut_5 rfl (iX3_fewestToShut_6 (iX3_fewestToShut_7 rfl ?_)))
  have key : ∀ j, j ≤ 2 ^ d → ∀ bh x5 x6, V kX3_fewestToShut 9 [some (.ref 16), some (.int (nI i)), some (.int t), some (.int (shS c n d k s t j)), some (.int (nI j)), x5, x6] [] (olW br bh g1 g2 c) 0 0 (qI Q) := by
    refine dn (2 ^ d) ?_
    intro j hj ih bh x5 x6
    refine iX3_fewestToShut_9 (iX3_fewestToShut_11 (iX3_fewestToShut_12 (iX3_fewestToShut_13 rfl rfl (iX3_fewestToShut_16 rfl rfl (iX3_fewestToShut_19 ?_)))))
    rw [hc.2.1.1, sh1 hc.2.1.2]
    refine iX3_fewestToShut_20 (fun g => ?_) (fun g => ?_)
    · have e := eq_of hj (by omega) g
      subst e
      refine iX3_fewestToShut_109 ?_
      exact iX3_fewestToShut_110 (h br bh)
    · have hlt := nlt_of (by omega) g
      have ih := ih hlt
      have e1 : nI j + 1 = nI (j + 1) := nI_1 j
      have e2 : shS c n d k s t (j + 1) = if shA (c.1 5) j ∧ shB (shS c n d k s t j) j ∧ shC c n d k s t j then nI j else shS c n d k s t j := rfl
      have no : ¬ (shA (c.1 5) j ∧ shB (shS c n d k s t j) j ∧ shC c n d k s t j) → ∀ bh x5 x6, V kX3_fewestToShut 103 [some (.ref 16), some (.int (nI i)), some (.int t), some (.int (shS c n d k s t j)), some (.int (nI j)), x5, some (.int x6)] [] (olW br bh g1 g2 c) 0 0 (qI Q) := by
        intro q bh x5 x6
        rw [if_neg q] at e2
        refine iX3_fewestToShut_103 rfl (iX3_fewestToShut_106 ?_)
        rw [e1]
        have := ih bh x5 (some (.int x6))
        rw [e2] at this
        exact this
      have stepB : ∀ A B : Int32, (A = 1 ∧ shA (c.1 5) j ∨ A = 0 ∧ ¬ shA (c.1 5) j) → (B = 1 ∧ shB (shS c n d k s t j) j ∨ B = 0 ∧ ¬ shB (shS c n d k s t j) j) → V kX3_fewestToShut 67 [some (.ref 16), some (.int (nI i)), some (.int t), some (.int (shS c n d k s t j)), some (.int (nI j)), some (.int A), x6] [.int B] (olW br bh g1 g2 c) 0 0 (qI Q) := by
        intro A B hA hB
        refine iX3_fewestToShut_67 rfl (iX3_fewestToShut_69 ?_)
        rcases hA with ⟨rfl, hA⟩ | ⟨rfl, hA⟩
        · refine iX3_fewestToShut_71 (fun h => False.elim (by revert h; decide)) (fun _ => (iX3_fewestToShut_74 ?_))
          rcases hB with ⟨rfl, hB⟩ | ⟨rfl, hB⟩
          · refine iX3_fewestToShut_76 (fun h => False.elim (by revert h; decide)) (fun _ => (iX3_fewestToShut_79 (iX3_fewestToShut_80 (iX3_fewestToShut_81 (iX3_fewestToShut_82 (iX3_fewestToShut_83 rfl rfl (iX3_fewestToShut_86 rfl rfl (iX3_fewestToShut_89 (iX3_fewestToShut_91 (iX3_fewestToShut_92 (iX3_fewestToShut_93 ?_)))))))))))
            refine iX3_fewestToShut_94 rfl (Nat.le_of_ble_eq_true rfl) (S_fallsNoSooner hc hi hs1 he hbr (fun q bh => ?_) (fun q bh => ?_))
            · rw [if_pos ⟨hA, hB, q⟩] at e2
              refine iX3_fewestToShut_97 (fun h => False.elim (by revert h; decide)) (fun _ => (iX3_fewestToShut_100 (iX3_fewestToShut_102 rfl (iX3_fewestToShut_103 rfl (iX3_fewestToShut_106 ?_)))))
              rw [e1]
              have := ih bh (some (.int 1)) (some (.int 1))
              rw [e2] at this
              exact this
            · refine iX3_fewestToShut_97 (fun _ => ?_) (fun h => False.elim (by revert h; decide))
              exact no (fun z => q z.2.2) bh _ _
          · refine iX3_fewestToShut_76 (fun _ => ?_) (fun h => False.elim (by revert h; decide))
            exact no (fun z => hB z.2.1) bh _ _
        · refine iX3_fewestToShut_71 (fun _ => ?_) (fun h => False.elim (by revert h; decide))
          exact no (fun z => hA z.1) bh _ _
      have stepA : ∀ A : Int32, (A = 1 ∧ shA (c.1 5) j ∨ A = 0 ∧ ¬ shA (c.1 5) j) → V kX3_fewestToShut 43 [some (.ref 16), some (.int (nI i)), some (.int t), some (.int (shS c n d k s t j)), some (.int (nI j)), x5, x6] [.int A] (olW br bh g1 g2 c) 0 0 (qI Q) := by
        intro A hA
        refine iX3_fewestToShut_43 rfl (iX3_fewestToShut_45 (iX3_fewestToShut_46 ?_))
        refine iX3_fewestToShut_47 (fun q => ?_) (fun q => ?_)
        · refine iX3_fewestToShut_62 (iX3_fewestToShut_63 ?_)
          exact stepB A 1 hA (Or.inl ⟨rfl, Or.inl q⟩)
        · refine iX3_fewestToShut_50 (iX3_fewestToShut_52 (Nat.le_of_ble_eq_true rfl) (S_bitCount (iX3_fewestToShut_55 (iX3_fewestToShut_56 (Nat.le_of_ble_eq_true rfl) (S_bitCount ?_)))))
          refine iX3_fewestToShut_59 (fun q2 => ?_) (fun q2 => ?_)
          · refine iX3_fewestToShut_66 ?_
            exact stepB A 0 hA (Or.inr ⟨rfl, fun z => z.elim q (i32_len q2)⟩)
          · refine iX3_fewestToShut_62 (iX3_fewestToShut_63 ?_)
            exact stepB A 1 hA (Or.inl ⟨rfl, Or.inr (i32_nle q2)⟩)
      refine iX3_fewestToShut_23 (iX3_fewestToShut_25 (iX3_fewestToShut_26 rfl rfl (iX3_fewestToShut_29 rfl rfl (iX3_fewestToShut_32 (iX3_fewestToShut_33 (iX3_fewestToShut_34 ?_))))))
      refine iX3_fewestToShut_35 (fun q => ?_) (fun q => ?_)
      · refine iX3_fewestToShut_42 ?_
        exact stepA 0 (Or.inr ⟨rfl, q⟩)
      · refine iX3_fewestToShut_38 (iX3_fewestToShut_39 ?_)
        exact stepA 1 (Or.inl ⟨rfl, q⟩)
  exact key 0 (Nat.zero_le _) bh none none
end Look2
