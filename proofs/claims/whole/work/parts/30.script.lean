/-! Strings -/
section Strs
variable {ws : Wd} {Q : Int32 → Wd → Prop} {R : Wd → Prop} {i j : Nat}
theorem S_chk3 {a b : Int32} {v : Value} (hv : v = .null ∨ v = .ref 14) (h0 : ¬ a < 0) (h1 : a < b) (h : Q a ws) : CallI kJ3_checkIndex_8e157 [.int a, .int b, v] ws Q := by
  have body : ∀ o, V kJ3_checkIndex_8e157 0 [some (.int a), some (.int b), o] [] ws 0 0 (qI Q) := by
    intro o
    refine iJ3_checkIndex_8e157_0 (iJ3_checkIndex_8e157_1 (fun h => False.elim (by (exact h0 h))) (fun _ => (iJ3_checkIndex_8e157_4 (iJ3_checkIndex_8e157_5 (iJ3_checkIndex_8e157_6 (fun _ => ?_) (fun h => False.elim (by (exact h h1))))))))
    refine iJ3_checkIndex_8e157_16 ?_
    exact iJ3_checkIndex_8e157_17 h
  rcases hv with rfl | rfl
  · exact Call_of (by decide +kernel) rfl (Nat.le_of_ble_eq_true rfl) (body _)
  · exact Call_of (by decide +kernel) rfl (Nat.le_of_ble_eq_true rfl) (body _)
theorem S_chk {a b : Int32} (h0 : ¬ a < 0) (h1 : a < b) (h : R ws) : CallV kJ0_checkIndex_df160 [.int a, .int b] ws R := by
  refine e_J0_checkIndex_df160 ?_
  refine iJ0_checkIndex_df160_0 (iJ0_checkIndex_df160_1 ?_)
  refine iJ0_checkIndex_df160_2 (fun v hv => ?_)
  refine iJ0_checkIndex_df160_5 (a0 := .int a) (a1 := .int b) (a2 := v) (Nat.le_of_ble_eq_true rfl) (S_chk3 hv h0 h1 ?_)
  refine iJ0_checkIndex_df160_8 rfl ?_
  exact iJ0_checkIndex_df160_9 h
theorem S_coder (hi : i < 6) (h : Q 0 ws) : CallI kJ0_coder_7d493 [.ref (i + 1)] ws Q := by
  refine e_J0_coder_7d493 ?_
  refine iJ0_coder_7d493_0 (iJ0_coder_7d493_3 (fun h => False.elim (by revert h; decide)) (fun _ => (iJ0_coder_7d493_6 (iJ0_coder_7d493_7 hi (iJ0_coder_7d493_10 ?_)))))
  exact iJ0_coder_7d493_14 rfl h
theorem S_isLatin1 (hi : i < 6) (h : Q 1 ws) : CallI kJ0_isLatin1_aae02 [.ref (i + 1)] ws Q := by
  refine e_J0_isLatin1_aae02 ?_
  refine iJ0_isLatin1_aae02_0 (iJ0_isLatin1_aae02_3 (fun h => False.elim (by revert h; decide)) (fun _ => (iJ0_isLatin1_aae02_6 (iJ0_isLatin1_aae02_7 hi (iJ0_isLatin1_aae02_10 (fun h => False.elim (by revert h; decide)) (fun _ => (iJ0_isLatin1_aae02_13 (iJ0_isLatin1_aae02_14 ?_))))))))
  exact iJ0_isLatin1_aae02_18 rfl h
theorem S_strlen (hi : i < 6) (h : Q (nI (wdLen.getD i 0)) ws) : CallI kJ0_length_8abf5 [.ref (i + 1)] ws Q := by
  refine e_J0_length_8abf5 ?_
  refine iJ0_length_8abf5_0 (iJ0_length_8abf5_1 hi (iJ0_length_8abf5_4 hi (iJ0_length_8abf5_5 (iJ0_length_8abf5_6 hi (Nat.le_of_ble_eq_true rfl) (S_coder hi ?_)))))
  refine iJ0_length_8abf5_9 ?_
  rw [sb_shr0]
  exact iJ0_length_8abf5_10 h
theorem chF : ∀ i, i < 6 → ∀ j, j < wdLen.getD i 0 → ((((wdByt.getD i []).getD j 0) &&& 255).toUInt32 % 65536).toInt32 = (wdByt.getD i []).getD j 0 ∧ narrow .char (.int ((wdByt.getD i []).getD j 0)) = .int ((wdByt.getD i []).getD j 0) := by decide +kernel
theorem S_chAt1 (hi : i < 6) (hj : j < wdLen.getD i 0) (h : Q ((wdByt.getD i []).getD j 0) ws) : CallI kJ1_charAt_3b067 [.ref (i + 7), .int (nI j)] ws Q := by
  have hl : wdLen.getD i 0 ≤ 6 := by
    have : ∀ i, i < 6 → wdLen.getD i 0 ≤ 6 := by decide
    exact this i hi
  have hc := chF i hi j hj
  refine e_J1_charAt_3b067 ?_
  refine iJ1_charAt_3b067_0 (iJ1_charAt_3b067_1 (iJ1_charAt_3b067_2 hi (iJ1_charAt_3b067_3 (Nat.le_of_ble_eq_true rfl) (S_chk (nI_pos (by omega)) (nI_lt hj (by omega)) (iJ1_charAt_3b067_6 (iJ1_charAt_3b067_7 ?_))))))
  refine iJ1_charAt_3b067_8 hi rfl hj (by omega) ?_
  refine iJ1_charAt_3b067_9 (iJ1_charAt_3b067_12 (iJ1_charAt_3b067_13 ?_))
  rw [hc.1]
  exact iJ1_charAt_3b067_14 hc.2 h
theorem S_charAt (hi : i < 6) (hj : j < wdLen.getD i 0) (h : Q ((wdByt.getD i []).getD j 0) ws) : CallI kJ0_charAt_5068e [.ref (i + 1), .int (nI j)] ws Q := by
  have hc := chF i hi j hj
  refine e_J0_charAt_5068e ?_
  refine iJ0_charAt_5068e_0 (iJ0_charAt_5068e_1 hi (Nat.le_of_ble_eq_true rfl) (S_isLatin1 hi (iJ0_charAt_5068e_4 (fun h => False.elim (by revert h; decide)) (fun _ => (iJ0_charAt_5068e_7 (iJ0_charAt_5068e_8 hi (iJ0_charAt_5068e_11 ?_)))))))
  refine iJ0_charAt_5068e_12 (a0 := .ref (i + 7)) (a1 := .int (nI j)) (Nat.le_of_ble_eq_true rfl) (S_chAt1 hi hj ?_)
  exact iJ0_charAt_5068e_15 hc.2 h
end Strs
/-! Script: numbers 0 length, 1 place, 2 sort, 3 start, 4 value -/
def ssW (S : Nat → Int32) (B nm : Nat → Int32) : Wd := [ob 6 [.ref 17, .int (S 0), .int (S 1), .int (S 2), .int (S 3), .int (S 4), .ref 18], ia 1 150 B, ia 0 4 nm]
def scn (P : Nat → Bool) : Nat → Nat → Nat
  | 0, p => p
  | z + 1, p => if P p then scn P z (p + 1) else p
theorem scn_ge (P : Nat → Bool) : ∀ z p, p ≤ scn P z p
  | 0, p => Nat.le_refl _
  | z + 1, p => by
    unfold scn
    split
    · have := scn_ge P z (p + 1); omega
    · exact Nat.le_refl _
theorem scn_le (P : Nat → Bool) : ∀ z p, scn P z p ≤ p + z
  | 0, p => Nat.le_refl _
  | z + 1, p => by
    unfold scn
    split
    · have := scn_le P z (p + 1); omega
    · omega
def isB (f : Nat → Int32) (p : Nat) : Bool := decide (f p = 32)
def isL (f : Nat → Int32) (p : Nat) : Bool := decide (97 ≤ f p ∧ f p ≤ 122)
def isF (f : Nat → Int32) (p : Nat) : Bool := decide (48 ≤ f p ∧ f p ≤ 57)
def tS (f : Nat → Int32) (l p : Nat) : Nat := scn (isB f) (l - p) p
def tW (f : Nat → Int32) (l p : Nat) : Nat := scn (isL f) (l - p) p
def tN (f : Nat → Int32) (l p : Nat) : Nat := scn (isF f) (l - p) p
/-- word w stands from s to e -/
def spl (f : Nat → Int32) (s e w : Nat) : Prop := e - s = wdLen.getD w 0 ∧ ∀ i, i < wdLen.getD w 0 → f (s + i) = (wdByt.getD w []).getD i 0
/-- the first word below w that stands there -/
noncomputable def wdF (f : Nat → Int32) (s e : Nat) : Nat → Int32
  | 0 => -1
  | w + 1 => by
    classical
    exact if wdF f s e w = -1 then (if spl f s e w then nI w else -1) else wdF f s e w
theorem wdF_k {f : Nat → Int32} {s e w : Nat} (h : ¬ wdF f s e w = -1) : wdF f s e (w + 1) = wdF f s e w := by
  conv => lhs; unfold wdF
  exact if_neg h
theorem wdF_y {f : Nat → Int32} {s e w : Nat} (h : wdF f s e w = -1) (h2 : spl f s e w) : wdF f s e (w + 1) = nI w := by
  conv => lhs; unfold wdF
  exact (if_pos h).trans (if_pos h2)
theorem wdF_n {f : Nat → Int32} {s e w : Nat} (h : wdF f s e w = -1) (h2 : ¬ spl f s e w) : wdF f s e (w + 1) = -1 := by
  conv => lhs; unfold wdF
  exact (if_pos h).trans (if_neg h2)
def nvS (f : Nat → Int32) (s : Nat) : Nat → Int32
  | 0 => 0
  | j + 1 => if j < 2 then 10 * nvS f s j + f (s + j) - 48 else nvS f s j
section Scr
variable {S : Nat → Int32} {B nm : Nat → Int32} {Q : Int32 → Wd → Prop} {R : Wd → Prop} {ws : Wd} {l p s i : Nat} {x : Int32}
theorem S_isLetter (h1 : 97 ≤ x ∧ x ≤ 122 → Q 1 ws) (h0 : ¬ (97 ≤ x ∧ x ≤ 122) → Q 0 ws) : CallI kX6_isLetter [.int x] ws Q := by
  refine e_X6_isLetter ?_
  refine iX6_isLetter_0 (iX6_isLetter_1 (iX6_isLetter_3 ?_))
  refine iX6_isLetter_5 (Nat.le_of_ble_eq_true rfl) (S_within (fun a b => ?_) (fun a => ?_))
  · exact iX6_isLetter_8 rfl (h1 ⟨a, b⟩)
  · exact iX6_isLetter_8 rfl (h0 a)
theorem S_isFigure (h1 : 48 ≤ x ∧ x ≤ 57 → Q 1 ws) (h0 : ¬ (48 ≤ x ∧ x ≤ 57) → Q 0 ws) : CallI kX6_isFigure [.int x] ws Q := by
  refine e_X6_isFigure ?_
  refine iX6_isFigure_0 (iX6_isFigure_1 (iX6_isFigure_3 ?_))
  refine iX6_isFigure_5 (Nat.le_of_ble_eq_true rfl) (S_within (fun a b => ?_) (fun a => ?_))
  · exact iX6_isFigure_8 rfl (h1 ⟨a, b⟩)
  · exact iX6_isFigure_8 rfl (h0 a)
theorem S_spelling {Q : Nat → Wd → Prop} (hi : i < 6) (h : Q (i + 1) ws) : CallR kX6_spelling [.int (nI i)] ws Q := by
  refine e_X6_spelling ?_
  refine iX6_spelling_0 ?_
  match i, hi, h with
  | 0, _, h => exact iX6_spelling_1_0 (iX6_spelling_36 (iX6_spelling_38 h))
  | 1, _, h => exact iX6_spelling_1_1 (iX6_spelling_39 (iX6_spelling_41 h))
  | 2, _, h => exact iX6_spelling_1_2 (iX6_spelling_42 (iX6_spelling_44 h))
  | 3, _, h => exact iX6_spelling_1_3 (iX6_spelling_45 (iX6_spelling_47 h))
  | 4, _, h => exact iX6_spelling_1_4 (iX6_spelling_48 (iX6_spelling_50 h))
  | 5, _, h => exact iX6_spelling_1_d (Or.inr (by decide)) (iX6_spelling_51 (iX6_spelling_53 h))
  | i + 6, hi, _ => exact absurd hi (by omega)
theorem S_isSpelt {w : Nat} (hw : w < 6) (hp : S 1 = nI p) (hs : S 3 = nI s) (hsp : s ≤ p) (hpl : p ≤ 150) (h1 : spl B s p w → Q 1 (ssW S B nm)) (h0 : ¬ spl B s p w → Q 0 (ssW S B nm)) : CallI kX6_isSpelt [.ref 16, .ref (w + 1)] (ssW S B nm) Q := by
  have hl : wdLen.getD w 0 ≤ 6 := by
    have : ∀ i, i < 6 → wdLen.getD i 0 ≤ 6 := by decide
    exact this w hw
  refine e_X6_isSpelt ?_
  refine iX6_isSpelt_0 (iX6_isSpelt_1 rfl rfl (iX6_isSpelt_4 (iX6_isSpelt_5 rfl rfl (iX6_isSpelt_8 (iX6_isSpelt_9 (iX6_isSpelt_10 hw (Nat.le_of_ble_eq_true rfl) (S_strlen hw ?_)))))))
  rw [hp, hs, pk_sub hsp]
  refine iX6_isSpelt_13 (fun g => ?_) (fun g => ?_)
  · have hlen : p - s = wdLen.getD w 0 := (nI_eq (by omega) (by omega)).mp g
    refine iX6_isSpelt_18 (iX6_isSpelt_19 rfl ?_)
    have key : ∀ j, j ≤ wdLen.getD w 0 → (∀ i, i < j → B (s + i) = (wdByt.getD w []).getD i 0) → V kX6_isSpelt 20 [some (.ref 16), some (.ref (w + 1)), some (.int (nI j))] [] (ssW S B nm) 0 0 (qI Q) := by
      refine dn (wdLen.getD w 0) ?_
      intro j hj ih hall
      refine iX6_isSpelt_20 (iX6_isSpelt_21 (iX6_isSpelt_22 hw (Nat.le_of_ble_eq_true rfl) (S_strlen hw ?_)))
      refine iX6_isSpelt_25 (fun g2 => ?_) (fun g2 => ?_)
      · have e := eq_of hj (by omega) g2
        refine iX6_isSpelt_55 ?_
        exact iX6_isSpelt_56 rfl (h1 ⟨hlen, fun i hi => hall i (by omega)⟩)
      · have hlt := nlt_of (by omega) g2
        have e1 : nI j + 1 = nI (j + 1) := nI_1 j
        refine iX6_isSpelt_28 (iX6_isSpelt_29 rfl rfl (iX6_isSpelt_32 (iX6_isSpelt_33 rfl rfl (iX6_isSpelt_36 (iX6_isSpelt_37 (iX6_isSpelt_38 (j := s + j) rfl (by rw [hs, nI_add]) (by omega) (by decide) (iX6_isSpelt_39 (iX6_isSpelt_40 (iX6_isSpelt_41 hw (Nat.le_of_ble_eq_true rfl) (S_charAt hw hlt ?_))))))))))
        refine iX6_isSpelt_44 (fun g3 => ?_) (fun g3 => ?_)
        · refine iX6_isSpelt_49 rfl (iX6_isSpelt_52 ?_)
          rw [e1]
          exact ih hlt (fun i hi => by
            by_cases hij : i = j
            · subst hij; exact g3
            · exact hall i (by omega))
        · refine iX6_isSpelt_47 ?_
          exact iX6_isSpelt_48 rfl (h0 (fun z => g3 (z.2 j hlt)))
    exact key 0 (Nat.zero_le _) (fun i hi => absurd hi (by omega))
  · refine iX6_isSpelt_16 ?_
    exact iX6_isSpelt_17 rfl (h0 (fun z => g (by rw [z.1])))
theorem S_append (hl : S 0 = nI l) (hl2 : l ≤ 150) (hb : ¬ (0 ≤ x ∧ x ≤ 127) → Q (-2) (ssW S B nm)) (hf : 0 ≤ x → x ≤ 127 → l = 150 → Q (-4) (ssW S B nm)) (ok : 0 ≤ x → x ≤ 127 → l < 150 → Q (nI (l + 1)) (ssW (upd S 0 (nI (l + 1))) (upd B l (vp_nar .byte x.toInt8.toInt32)) nm)) : CallI kX6_append [.ref 16, .int x] (ssW S B nm) Q := by
  refine e_X6_append ?_
  refine iX6_append_0 (iX6_append_1 (iX6_append_2 ?_))
  refine iX6_append_4 (Nat.le_of_ble_eq_true rfl) (S_within (fun a b => ?_) (fun a => ?_))
  · refine iX6_append_7 (fun _ => (iX6_append_13 (iX6_append_14 rfl rfl (iX6_append_17 ?_)))) (fun h => False.elim (by revert h; decide))
    rw [hl]
    refine iX6_append_20 (fun g => ?_) (fun g => ?_)
    · have hlt : l < 150 := (nI_ltI (by omega) (by omega)).mp (show nI l < nI 150 from g)
      refine iX6_append_26 (iX6_append_27 rfl rfl (iX6_append_30 (iX6_append_31 rfl rfl (iX6_append_34 (iX6_append_35 (iX6_append_36 rfl hl (by omega) (by decide) (iX6_append_37 (iX6_append_38 rfl (iX6_append_39 rfl rfl (iX6_append_42 (iX6_append_43 ?_)))))))))))
      have e1 : S 0 + 1 = nI (l + 1) := by rw [hl, nI_1]
      rw [e1]
      refine iX6_append_44 rfl (Nat.le_of_ble_eq_true rfl) (iX6_append_47 (iX6_append_48 rfl rfl ?_))
      exact iX6_append_51 (ok a b hlt)
    · have h5 : l = 150 := by
        rcases Nat.lt_or_ge l 150 with q | q
        · exact absurd (show nI l < nI 150 from nI_lt q (by omega)) g
        · omega
      refine iX6_append_23 ?_
      exact iX6_append_25 (hf a b h5)
  · refine iX6_append_7 (fun h => False.elim (by revert h; decide)) (fun _ => (iX6_append_10 ?_))
    exact iX6_append_12 (hb a)
theorem S_empty (h : Q (S 0) (ssW (upd S 0 0) B nm)) : CallI kX6_empty [.ref 16] (ssW S B nm) Q := by
  refine e_X6_empty ?_
  refine iX6_empty_0 (iX6_empty_1 rfl rfl (iX6_empty_4 rfl (iX6_empty_5 (iX6_empty_6 (iX6_empty_7 rfl (Nat.le_of_ble_eq_true rfl) (iX6_empty_10 ?_))))))
  exact iX6_empty_11 h
end Scr
