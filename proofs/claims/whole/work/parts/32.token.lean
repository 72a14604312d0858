def mkS (S : Nat → Int32) (so : Int32) (s : Nat) (v : Int32) (e : Nat) : Nat → Int32 := fun j => if j = 1 then nI e else if j = 2 then so else if j = 3 then nI s else if j = 4 then v else S j
theorem ssW_mk {S B nm : Nat → Int32} {s e : Nat} {v : Int32} (h1 : S 1 = nI e) (h3 : S 3 = nI s) (h4 : S 4 = v) : ssW S B nm = ssW (mkS S (S 2) s v e) B nm := by
  unfold ssW
  rw [h1, h3, h4]
  rfl
/-- a token from p on: its sort, its start, its value, the place behind it -/
noncomputable def tkR (f : Nat → Int32) (l p : Nat) : Int32 × Nat × Int32 × Nat :=
  if l ≤ tS f l p then (3, tS f l p, -1, tS f l p)
  else if isL f (tS f l p) = true then (0, tS f l p, wdF f (tS f l p) (tW f l (tS f l p)) 6, tW f l (tS f l p))
  else if isF f (tS f l p) = true then (if tN f l (tS f l p) - tS f l p ≤ 2 then 1 else 4, tS f l p, nvS f (tS f l p) (tN f l (tS f l p) - tS f l p), tN f l (tS f l p))
  else (if f (tS f l p) = 59 then 2 else 4, tS f l p, -1, tS f l p + 1)
theorem mkS_mkS (S : Nat → Int32) (a : Int32) (b : Nat) (v : Int32) (e : Nat) (so : Int32) (s : Nat) (v2 : Int32) (e2 : Nat) : mkS (mkS S a b v e) so s v2 e2 = mkS S so s v2 e2 := by
  funext j
  unfold mkS
  by_cases h1 : j = 1
  · simp [h1]
  · by_cases h2 : j = 2
    · simp [h2]
    · by_cases h3 : j = 3
      · simp [h3]
      · by_cases h4 : j = 4
        · simp [h4]
        · simp [h1, h2, h3, h4]
noncomputable def tkS (S : Nat → Int32) (r : Int32 × Nat × Int32 × Nat) : Nat → Int32 := mkS S r.1 r.2.1 r.2.2.1 r.2.2.2
theorem scn_step {P : Nat → Bool} {l q : Nat} (h : q < l) (hq : P q = true) : scn P (l - q) q = scn P (l - (q + 1)) (q + 1) := by
  rw [show l - q = (l - (q + 1)) + 1 by omega]
  conv => lhs; unfold scn
  rw [if_pos hq]
theorem scn_stop {P : Nat → Bool} {l q : Nat} (h : q < l) (hq : ¬ P q = true) : scn P (l - q) q = q := by
  rw [show l - q = (l - (q + 1)) + 1 by omega]
  conv => lhs; unfold scn
  rw [if_neg hq]
theorem scn_end {P : Nat → Bool} {l q : Nat} (h : l ≤ q) : scn P (l - q) q = q := by
  rw [show l - q = 0 by omega]; rfl
theorem scn_in (P : Nat → Bool) {l q : Nat} (h : q ≤ l) : q ≤ scn P (l - q) q ∧ scn P (l - q) q ≤ l := ⟨scn_ge _ _ _, by have := scn_le P (l - q) q; omega⟩
section Tok
variable {S : Nat → Int32} {B nm : Nat → Int32} {Q : Int32 → Wd → Prop} {R : Wd → Prop} {ws : Wd} {l p s i : Nat} {x : Int32}
theorem S_takeWord (hl : S 0 = nI l) (hl2 : l ≤ 150) (hp : S 1 = nI s) (hs : S 3 = nI s) (hv : S 4 = -1) (hsl : s ≤ l) (h : R (ssW (mkS S 0 s (wdF B s (tW B l s) 6) (tW B l s)) B nm)) : CallV kX6_takeWord [.ref 16] (ssW S B nm) R := by
  rw [ssW_mk (B := B) (nm := nm) hp hs hv]
  refine e_X6_takeWord ?_
  have hin : s ≤ tW B l s ∧ tW B l s ≤ l := scn_in (isL B) hsl
  have two : ∀ w, w ≤ 6 → V kX6_takeWord 46 [some (.ref 16), some (.int (nI w))] [] (ssW (mkS S 0 s (wdF B s (tW B l s) w) (tW B l s)) B nm) 0 0 (qV R) := by
    refine dn 6 ?_
    intro w hw ih
    refine iX6_takeWord_46 (iX6_takeWord_47 ?_)
    refine iX6_takeWord_48 (fun g => ?_) (fun g => ?_)
    · have : w = 6 := by
        have := (nI_ltI (a := 5) (b := w) (by omega) (by omega)).mp g
        omega
      subst this
      exact iX6_takeWord_81 h
    · have hlt : w < 6 := by
        rcases Nat.lt_or_ge w 6 with q | q
        · exact q
        · exact absurd (nI_lt (a := 5) (b := w) (by omega) (by omega)) g
      have ih := ih hlt
      have e1 : nI w + 1 = nI (w + 1) := nI_1 w
      refine iX6_takeWord_51 (iX6_takeWord_52 rfl rfl (iX6_takeWord_55 ?_))
      refine iX6_takeWord_56 (fun g2 => ?_) (fun g2 => ?_)
      · have g2 : ¬ wdF B s (tW B l s) w = -1 := g2
        have hst : ∀ j, w ≤ j → wdF B s (tW B l s) j = wdF B s (tW B l s) w := by
          intro j hj
          induction j with
          | zero => rw [show w = 0 by omega]
          | succ j ihj =>
            by_cases hwj : w = j + 1
            · rw [hwj]
            · have := ihj (by omega)
              rw [wdF_k (by rw [this]; exact g2), this]
        rw [hst 6 (by omega)] at h
        exact iX6_takeWord_81 h
      · have g2 : wdF B s (tW B l s) w = -1 := g2
        refine iX6_takeWord_59 (iX6_takeWord_60 (iX6_takeWord_61 (Nat.le_of_ble_eq_true rfl) (S_spelling hlt ?_)))
        refine iX6_takeWord_64 rfl (Nat.le_of_ble_eq_true rfl) (S_isSpelt (p := tW B l s) (s := s) hlt rfl rfl hin.1 (by have := hin.2; omega) (fun q => ?_) (fun q => ?_))
        · have e2 := wdF_y g2 q
          refine iX6_takeWord_67 (fun h => False.elim (by revert h; decide)) (fun _ => (iX6_takeWord_70 (iX6_takeWord_71 (iX6_takeWord_72 rfl (Nat.le_of_ble_eq_true rfl) (iX6_takeWord_75 rfl (iX6_takeWord_78 ?_))))))
          rw [e1]
          rw [e2] at ih
          exact ih
        · have e2 := wdF_n g2 q
          refine iX6_takeWord_67 (fun _ => (iX6_takeWord_75 rfl (iX6_takeWord_78 ?_))) (fun h => False.elim (by revert h; decide))
          rw [e1]
          rw [e2] at ih
          rw [g2]
          exact ih
  have one : ∀ q, q ≤ l → s ≤ q → scn (isL B) (l - q) q = tW B l s → V kX6_takeWord 0 [some (.ref 16), none] [] (ssW (mkS S (S 2) s (-1) q) B nm) 0 0 (qV R) := by
    refine dn l ?_
    intro q hq ih hsq he
    have fin : q = tW B l s → V kX6_takeWord 39 [some (.ref 16), none] [] (ssW (mkS S (S 2) s (-1) q) B nm) 0 0 (qV R) := by
      intro e
      subst e
      refine iX6_takeWord_39 (iX6_takeWord_40 (iX6_takeWord_41 rfl (Nat.le_of_ble_eq_true rfl) (iX6_takeWord_44 (iX6_takeWord_45 rfl ?_))))
      exact two 0 (Nat.zero_le _)
    refine iX6_takeWord_0 (iX6_takeWord_1 rfl rfl (iX6_takeWord_4 (iX6_takeWord_5 rfl rfl ?_)))
    refine iX6_takeWord_8 (fun g => ?_) (fun g => ?_)
    · have g : nI l ≤ nI q := by rw [← hl]; exact g
      have e := eq_of hq (by omega) g
      refine fin ?_
      rw [← he, e, Nat.sub_self]
      rfl
    · have g : ¬ nI l ≤ nI q := by rw [← hl]; exact g
      have hlt := nlt_of (by omega) g
      refine iX6_takeWord_11 (iX6_takeWord_12 rfl rfl (iX6_takeWord_15 (iX6_takeWord_16 rfl rfl (iX6_takeWord_19 rfl rfl (by omega) (by decide) ?_))))
      refine iX6_takeWord_20 (Nat.le_of_ble_eq_true rfl) (S_isLetter (fun z => ?_) (fun z => ?_))
      · have hL : isL B q = true := decide_eq_true z
        have e1 : mkS S (S 2) s (-1) q 1 + 1 = nI (q + 1) := nI_1 q
        refine iX6_takeWord_23 (fun h => False.elim (by revert h; decide)) (fun _ => (iX6_takeWord_26 (iX6_takeWord_27 rfl (iX6_takeWord_28 rfl rfl (iX6_takeWord_31 (iX6_takeWord_32 (iX6_takeWord_33 rfl (Nat.le_of_ble_eq_true rfl) ?_)))))))
        rw [e1]
        refine iX6_takeWord_36 ?_
        exact ih hlt (by omega) ((scn_step hlt hL).symm.trans he)
      · have hL : ¬ isL B q = true := fun hh => z (of_decide_eq_true hh)
        refine iX6_takeWord_23 (fun _ => ?_) (fun h => False.elim (by revert h; decide))
        exact fin ((scn_stop hlt hL).symm.trans he)
  exact one s hsl (Nat.le_refl _) rfl
theorem S_takeNumber (hl : S 0 = nI l) (hl2 : l ≤ 150) (hp : S 1 = nI s) (hs : S 3 = nI s) (hv : S 4 = -1) (hsl : s ≤ l) (h : R (ssW (mkS S (if tN B l s - s ≤ 2 then 1 else 4) s (nvS B s (tN B l s - s)) (tN B l s)) B nm)) : CallV kX6_takeNumber [.ref 16] (ssW S B nm) R := by
  rw [ssW_mk (B := B) (nm := nm) hp hs hv]
  refine e_X6_takeNumber ?_
  have hin : s ≤ tN B l s ∧ tN B l s ≤ l := scn_in (isF B) hsl
  refine iX6_takeNumber_0 (iX6_takeNumber_1 rfl ?_)
  have one : ∀ q, q ≤ l → s ≤ q → scn (isF B) (l - q) q = tN B l s → V kX6_takeNumber 2 [some (.ref 16), some (.int (nvS B s (q - s)))] [] (ssW (mkS S (S 2) s (-1) q) B nm) 0 0 (qV R) := by
    refine dn l ?_
    intro q hq ih hsq he
    have fin : q = tN B l s → V kX6_takeNumber 76 [some (.ref 16), some (.int (nvS B s (q - s)))] [] (ssW (mkS S (S 2) s (-1) q) B nm) 0 0 (qV R) := by
      intro e
      subst e
      have ed : mkS S (S 2) s (-1) (tN B l s) 1 - mkS S (S 2) s (-1) (tN B l s) 3 = nI (tN B l s - s) := pk_sub hsq
      refine iX6_takeNumber_76 (iX6_takeNumber_77 (iX6_takeNumber_78 rfl rfl (iX6_takeNumber_81 (iX6_takeNumber_82 rfl rfl (iX6_takeNumber_85 (iX6_takeNumber_86 ?_))))))
      rw [ed]
      refine iX6_takeNumber_87 (fun g => ?_) (fun g => ?_)
      · have hgt : ¬ tN B l s - s ≤ 2 := by
          have := (nI_ltI (a := 2) (b := tN B l s - s) (by omega) (by omega)).mp g
          omega
        rw [if_neg hgt] at h
        refine iX6_takeNumber_94 (iX6_takeNumber_95 rfl (Nat.le_of_ble_eq_true rfl) (iX6_takeNumber_98 (iX6_takeNumber_99 (iX6_takeNumber_100 rfl (Nat.le_of_ble_eq_true rfl) ?_))))
        exact iX6_takeNumber_103 h
      · have hle : tN B l s - s ≤ 2 := by
          rcases Nat.lt_or_ge 2 (tN B l s - s) with z | z
          · exact absurd (nI_lt (a := 2) z (by omega)) g
          · exact z
        rw [if_pos hle] at h
        refine iX6_takeNumber_90 (iX6_takeNumber_91 (iX6_takeNumber_95 rfl (Nat.le_of_ble_eq_true rfl) (iX6_takeNumber_98 (iX6_takeNumber_99 (iX6_takeNumber_100 rfl (Nat.le_of_ble_eq_true rfl) ?_)))))
        exact iX6_takeNumber_103 h
    refine iX6_takeNumber_2 (iX6_takeNumber_3 rfl rfl (iX6_takeNumber_6 (iX6_takeNumber_7 rfl rfl ?_)))
    refine iX6_takeNumber_10 (fun g => ?_) (fun g => ?_)
    · have g : nI l ≤ nI q := by rw [← hl]; exact g
      have e := eq_of hq (by omega) g
      refine fin ?_
      rw [← he, e, Nat.sub_self]
      rfl
    · have g : ¬ nI l ≤ nI q := by rw [← hl]; exact g
      have hlt := nlt_of (by omega) g
      refine iX6_takeNumber_13 (iX6_takeNumber_14 rfl rfl (iX6_takeNumber_17 (iX6_takeNumber_18 rfl rfl (iX6_takeNumber_21 rfl rfl (by omega) (by decide) ?_))))
      refine iX6_takeNumber_22 (Nat.le_of_ble_eq_true rfl) (S_isFigure (fun z => ?_) (fun z => ?_))
      · have hL : isF B q = true := decide_eq_true z
        have e1 : mkS S (S 2) s (-1) q 1 + 1 = nI (q + 1) := nI_1 q
        have ed : mkS S (S 2) s (-1) q 1 - mkS S (S 2) s (-1) q 3 = nI (q - s) := pk_sub hsq
        have nx := ih hlt (by omega) ((scn_step hlt hL).symm.trans he)
        rw [show q + 1 - s = (q - s) + 1 by omega] at nx
        have e2 : nvS B s (q - s + 1) = if q - s < 2 then 10 * nvS B s (q - s) + B (s + (q - s)) - 48 else nvS B s (q - s) := rfl
        rw [show s + (q - s) = q by omega] at e2
        refine iX6_takeNumber_25 (fun h => False.elim (by revert h; decide)) (fun _ => (iX6_takeNumber_28 (iX6_takeNumber_29 rfl rfl (iX6_takeNumber_32 (iX6_takeNumber_33 rfl rfl (iX6_takeNumber_36 (iX6_takeNumber_37 ?_)))))))
        rw [ed]
        refine iX6_takeNumber_38 (fun g2 => ?_) (fun g2 => ?_)
        · have hge : ¬ q - s < 2 := by
            have := (nI_leI (a := 2) (b := q - s) (by omega) (by omega)).mp g2
            omega
          rw [if_neg hge] at e2
          rw [e2] at nx
          refine iX6_takeNumber_61 (iX6_takeNumber_62 rfl (iX6_takeNumber_63 (iX6_takeNumber_64 rfl (iX6_takeNumber_65 rfl rfl (iX6_takeNumber_68 (iX6_takeNumber_69 (iX6_takeNumber_70 rfl (Nat.le_of_ble_eq_true rfl) ?_)))))))
          rw [e1]
          refine iX6_takeNumber_73 ?_
          exact nx
        · have hlt2 : q - s < 2 := by
            rcases Nat.lt_or_ge (q - s) 2 with z | z
            · exact z
            · exact absurd (nI_le (a := 2) z (by omega)) g2
          rw [if_pos hlt2] at e2
          rw [e2] at nx
          refine iX6_takeNumber_41 (iX6_takeNumber_43 (iX6_takeNumber_44 (iX6_takeNumber_45 (iX6_takeNumber_46 rfl rfl (iX6_takeNumber_49 (iX6_takeNumber_50 rfl rfl (iX6_takeNumber_53 rfl rfl (by omega) (by decide) (iX6_takeNumber_54 (iX6_takeNumber_55 (iX6_takeNumber_57 (iX6_takeNumber_58 (iX6_takeNumber_62 rfl (iX6_takeNumber_63 (iX6_takeNumber_64 rfl (iX6_takeNumber_65 rfl rfl (iX6_takeNumber_68 (iX6_takeNumber_69 (iX6_takeNumber_70 rfl (Nat.le_of_ble_eq_true rfl) ?_))))))))))))))))))
          rw [e1]
          refine iX6_takeNumber_73 ?_
          exact nx
      · have hL : ¬ isF B q = true := fun hh => z (of_decide_eq_true hh)
        refine iX6_takeNumber_25 (fun _ => ?_) (fun h => False.elim (by revert h; decide))
        exact fin ((scn_stop hlt hL).symm.trans he)
  have := one s hsl (Nat.le_refl _) rfl
  rw [Nat.sub_self] at this
  exact this
theorem S_takeToken (hl : S 0 = nI l) (hl2 : l ≤ 150) (hp : S 1 = nI p) (hpl : p ≤ l) (h : R (ssW (tkS S (tkR B l p)) B nm)) : CallV kX6_takeToken [.ref 16] (ssW S B nm) R := by
  refine e_X6_takeToken ?_
  have hin : p ≤ tS B l p ∧ tS B l p ≤ l := scn_in (isB B) hpl
  have two : V kX6_takeToken 38 [some (.ref 16)] [] (ssW (upd S 1 (nI (tS B l p))) B nm) 0 0 (qV R) := by
    unfold tkR at h
    generalize hse : tS B l p = s at h
    have hin : p ≤ s ∧ s ≤ l := by rw [← hse]; exact hin
    refine iX6_takeToken_38 (iX6_takeToken_39 (iX6_takeToken_40 rfl rfl (iX6_takeToken_43 rfl (Nat.le_of_ble_eq_true rfl) (iX6_takeToken_46 (iX6_takeToken_47 (iX6_takeToken_48 rfl (Nat.le_of_ble_eq_true rfl) ?_))))))
    change V kX6_takeToken 51 [some (.ref 16)] [] (ssW (mkS S (S 2) s (-1) s) B nm) 0 0 (qV R)
    refine iX6_takeToken_51 (iX6_takeToken_52 rfl rfl (iX6_takeToken_55 (iX6_takeToken_56 rfl rfl ?_)))
    refine iX6_takeToken_59 (fun g => ?_) (fun g => ?_)
    · have g : nI s < nI l := by rw [← hl]; exact g
      have hlt : s < l := (nI_ltI (by omega) (by omega)).mp g
      rw [if_neg (by omega)] at h
      refine iX6_takeToken_70 (iX6_takeToken_71 rfl rfl (iX6_takeToken_74 (iX6_takeToken_75 rfl rfl (iX6_takeToken_78 rfl rfl (by omega) (by decide) ?_))))
      refine iX6_takeToken_79 (Nat.le_of_ble_eq_true rfl) (S_isLetter (fun z => ?_) (fun z => ?_))
      · have hL : isL B s = true := decide_eq_true z
        rw [if_pos hL] at h
        refine iX6_takeToken_82 (fun h => False.elim (by revert h; decide)) (fun _ => (iX6_takeToken_85 ?_))
        refine iX6_takeToken_86 rfl (Nat.le_of_ble_eq_true rfl) (S_takeWord (l := l) (s := s) hl hl2 rfl rfl rfl hin.2 ?_)
        rw [mkS_mkS]
        refine iX6_takeToken_89 ?_
        refine iX6_takeToken_147 ?_
        simp only [tkS] at h
        exact h
      · have hL : ¬ isL B s = true := fun hh => z (of_decide_eq_true hh)
        rw [if_neg hL] at h
        refine iX6_takeToken_82 (fun _ => (iX6_takeToken_92 (iX6_takeToken_93 rfl rfl (iX6_takeToken_96 (iX6_takeToken_97 rfl rfl (iX6_takeToken_100 rfl rfl (by omega) (by decide) ?_)))))) (fun h => False.elim (by revert h; decide))
        refine iX6_takeToken_101 (Nat.le_of_ble_eq_true rfl) (S_isFigure (fun z => ?_) (fun z => ?_))
        · have hF : isF B s = true := decide_eq_true z
          rw [if_pos hF] at h
          refine iX6_takeToken_104 (fun h => False.elim (by revert h; decide)) (fun _ => (iX6_takeToken_107 ?_))
          refine iX6_takeToken_108 rfl (Nat.le_of_ble_eq_true rfl) (S_takeNumber (l := l) (s := s) hl hl2 rfl rfl rfl hin.2 ?_)
          rw [mkS_mkS]
          refine iX6_takeToken_111 ?_
          refine iX6_takeToken_147 ?_
          simp only [tkS] at h
          exact h
        · have hF : ¬ isF B s = true := fun hh => z (of_decide_eq_true hh)
          rw [if_neg hF] at h
          refine iX6_takeToken_104 (fun _ => (iX6_takeToken_114 (iX6_takeToken_115 (iX6_takeToken_116 rfl rfl (iX6_takeToken_119 (iX6_takeToken_120 rfl rfl (iX6_takeToken_123 rfl rfl (by omega) (by decide) (iX6_takeToken_124 ?_)))))))) (fun h => False.elim (by revert h; decide))
          have e1 : mkS S (S 2) s (-1) s 1 + 1 = nI (s + 1) := nI_1 s
          simp only [tkS] at h
          refine iX6_takeToken_126 (fun g2 => ?_) (fun g2 => ?_)
          · have g2 : ¬ B s = 59 := g2
            rw [if_neg g2] at h
            refine iX6_takeToken_133 (iX6_takeToken_134 rfl (Nat.le_of_ble_eq_true rfl) (iX6_takeToken_137 (iX6_takeToken_138 rfl (iX6_takeToken_139 rfl rfl (iX6_takeToken_142 (iX6_takeToken_143 ?_))))))
            rw [e1]
            refine iX6_takeToken_144 rfl (Nat.le_of_ble_eq_true rfl) ?_
            exact iX6_takeToken_147 h
          · have g2 : B s = 59 := g2
            rw [if_pos g2] at h
            refine iX6_takeToken_129 (iX6_takeToken_130 (iX6_takeToken_134 rfl (Nat.le_of_ble_eq_true rfl) (iX6_takeToken_137 (iX6_takeToken_138 rfl (iX6_takeToken_139 rfl rfl (iX6_takeToken_142 (iX6_takeToken_143 ?_)))))))
            rw [e1]
            refine iX6_takeToken_144 rfl (Nat.le_of_ble_eq_true rfl) ?_
            exact iX6_takeToken_147 h
    · have hge : l ≤ s := by
        rcases Nat.lt_or_ge s l with z | z
        · exact absurd (show nI s < S 0 by rw [hl]; exact nI_lt z (by omega)) g
        · exact z
      rw [if_pos hge] at h
      simp only [tkS] at h
      refine iX6_takeToken_62 (iX6_takeToken_63 (iX6_takeToken_64 rfl (Nat.le_of_ble_eq_true rfl) (iX6_takeToken_67 ?_)))
      exact iX6_takeToken_147 h
  have one : ∀ q, q ≤ l → p ≤ q → scn (isB B) (l - q) q = tS B l p → V kX6_takeToken 0 [some (.ref 16)] [] (ssW (upd S 1 (nI q)) B nm) 0 0 (qV R) := by
    refine dn l ?_
    intro q hq ih hsq he
    have fin : q = tS B l p → V kX6_takeToken 38 [some (.ref 16)] [] (ssW (upd S 1 (nI q)) B nm) 0 0 (qV R) := by
      intro e
      rw [e]
      exact two
    refine iX6_takeToken_0 (iX6_takeToken_1 rfl rfl (iX6_takeToken_4 (iX6_takeToken_5 rfl rfl ?_)))
    refine iX6_takeToken_8 (fun g => ?_) (fun g => ?_)
    · have g : nI l ≤ nI q := by rw [← hl]; exact g
      have e := eq_of hq (by omega) g
      refine fin ?_
      rw [← he, e, Nat.sub_self]
      rfl
    · have g : ¬ nI l ≤ nI q := by rw [← hl]; exact g
      have hlt := nlt_of (by omega) g
      refine iX6_takeToken_11 (iX6_takeToken_12 rfl rfl (iX6_takeToken_15 (iX6_takeToken_16 rfl rfl (iX6_takeToken_19 rfl rfl (by omega) (by decide) (iX6_takeToken_20 ?_)))))
      refine iX6_takeToken_22 (fun z => ?_) (fun z => ?_)
      · have hL : ¬ isB B q = true := fun hh => z (of_decide_eq_true hh)
        exact fin ((scn_stop hlt hL).symm.trans he)
      · have hL : isB B q = true := decide_eq_true z
        have e1 : upd S 1 (nI q) 1 + 1 = nI (q + 1) := nI_1 q
        refine iX6_takeToken_25 (iX6_takeToken_26 rfl (iX6_takeToken_27 rfl rfl (iX6_takeToken_30 (iX6_takeToken_31 (iX6_takeToken_32 rfl (Nat.le_of_ble_eq_true rfl) ?_)))))
        rw [e1]
        refine iX6_takeToken_35 ?_
        exact ih hlt (by omega) ((scn_step hlt hL).symm.trans he)
  have hw : ssW S B nm = ssW (upd S 1 (nI p)) B nm := by
    unfold ssW
    rw [hp]
    rfl
  rw [hw]
  exact one p hpl (Nat.le_refl _) rfl
end Tok
