/-! the reference reads -/
def srt (x : Int32) : Int32 := if 97 ≤ x ∧ x ≤ 122 then 1 else if 48 ≤ x ∧ x ≤ 57 then 2 else 0
theorem srt1 {f : Nat → Int32} {i : Nat} : srt (f i) = 1 ↔ isL f i = true := by
  unfold srt isL
  rw [decide_eq_true_iff]
  constructor
  · intro h
    split at h
    · assumption
    · split at h
      · exact absurd h (by decide)
      · exact absurd h (by decide)
  · intro h
    rw [if_pos h]
theorem srt2 {f : Nat → Int32} {i : Nat} : srt (f i) = 2 ↔ isF f i = true := by
  unfold srt isF
  rw [decide_eq_true_iff]
  constructor
  · intro h
    split at h
    · exact absurd h (by decide)
    · split at h
      · assumption
      · exact absurd h (by decide)
  · intro h
    have g : ¬ (97 ≤ f i ∧ f i ≤ 122) := fun z => absurd (Int32.le_trans z.1 h.2) (by decide)
    rw [if_neg g, if_pos h]
def tE (f : Nat → Int32) (l s : Nat) : Nat := if l ≤ s then s else if isL f s = true then tW f l s else if isF f s = true then tN f l s else s + 1
def tkM (s : Nat → Int32) (a p e : Int32) : Nat → Int32 := fun j => if j = 5 then a else if j = 6 then p else if j = 7 then e else s j
section MTok
variable {R T K D s : Nat → Int32} {l q : Nat} {x : Int32} {Q : Int32 → Wd → Prop} {ws : Wd}
theorem M_sort (h : Q (srt x) ws) : CallI kX11_sort [.int x] ws Q := by
  refine e_X11_sort ?_
  unfold srt at h
  have dig : ¬ (97 ≤ x ∧ x ≤ 122) → V kX11_sort 16 [some (.int x)] [] ws 0 0 (qI Q) := by
    intro g
    rw [if_neg g] at h
    refine iX11_sort_16 (iX11_sort_17 ?_)
    refine iX11_sort_19 (fun g1 => ?_) (fun g1 => ?_)
    · rw [if_neg (fun z => i32_len z.1 g1)] at h
      refine iX11_sort_32 ?_
      exact iX11_sort_33 h
    · refine iX11_sort_22 (iX11_sort_23 ?_)
      refine iX11_sort_25 (fun g2 => ?_) (fun g2 => ?_)
      · rw [if_neg (fun z => i32_len z.2 g2)] at h
        refine iX11_sort_32 ?_
        exact iX11_sort_33 h
      · rw [if_pos ⟨i32_nlt g1, i32_nlt g2⟩] at h
        refine iX11_sort_28 (iX11_sort_29 ?_)
        exact iX11_sort_33 h
  refine iX11_sort_0 (iX11_sort_1 ?_)
  refine iX11_sort_3 (fun g1 => ?_) (fun g1 => ?_)
  · exact dig (fun z => i32_len z.1 g1)
  · refine iX11_sort_6 (iX11_sort_7 ?_)
    refine iX11_sort_9 (fun g2 => ?_) (fun g2 => ?_)
    · exact dig (fun z => i32_len z.2 g2)
    · rw [if_pos ⟨i32_nlt g1, i32_nlt g2⟩] at h
      refine iX11_sort_12 (iX11_sort_13 ?_)
      exact iX11_sort_33 h
theorem M_token {Q : Wd → Prop} (hl : s 0 = nI l) (hl2 : l ≤ 150) (ha : s 5 = nI q) (hq : q ≤ l) (h : Q (mW R T K D (tkM s (nI (tE T l (tS T l q))) (nI (tS T l q)) (nI (tE T l (tS T l q)))))) : CallV kX11_token [.ref 16] (mW R T K D s) Q := by
  refine e_X11_token ?_
  have hw : mW R T K D s = mW R T K D (tkM s (nI q) (s 6) (s 7)) := by
    unfold mW
    rw [ha]
    rfl
  rw [hw]
  generalize s 6 = p0
  generalize s 7 = e0
  generalize hs0 : tS T l q = s0 at h
  have out : ∀ j, j = tE T l s0 → V kX11_token 137 [some (.ref 16)] [] (mW R T K D (tkM s (nI j) (nI s0) e0)) 0 0 (qV Q) := by
    intro j hj
    subst hj
    refine iX11_token_137 (iX11_token_138 (iX11_token_139 rfl rfl (iX11_token_142 rfl (Nat.le_of_ble_eq_true rfl) ?_)))
    exact iX11_token_145 h
  have loop2 : ∀ P : Nat → Bool, s0 < l → 0 < srt (T s0) → (∀ i, srt (T i) = srt (T s0) ↔ P i = true) → ∀ j, j ≤ l → scn P (l - j) j = tE T l s0 → V kX11_token 71 [some (.ref 16)] [] (mW R T K D (tkM s (nI j) (nI s0) e0)) 0 0 (qV Q) := by
    intro P hs hpos hP
    refine dn l ?_
    intro j hj ih he
    refine iX11_token_71 (iX11_token_72 rfl rfl (iX11_token_75 (iX11_token_76 rfl rfl ?_)))
    refine iX11_token_79 (fun g => ?_) (fun g => ?_)
    · have g : nI l ≤ nI j := by rw [← hl]; exact g
      have e := eq_of hj (by omega) g
      exact out j (by rw [← he, scn_end (by omega)])
    · have g : ¬ nI l ≤ nI j := by rw [← hl]; exact g
      have hlt := nlt_of (by omega) g
      have ih := ih hlt
      have e1 : nI j + 1 = nI (j + 1) := nI_1 j
      refine iX11_token_82 (iX11_token_83 rfl rfl (iX11_token_86 (iX11_token_87 rfl rfl (iX11_token_90 (j := s0) rfl rfl (by omega) (by decide) (iX11_token_91 (Nat.le_of_ble_eq_true rfl) (M_sort (iX11_token_94 (fun h => False.elim (by exact i32_len h hpos)) (fun _ => (iX11_token_97 (iX11_token_98 rfl rfl (iX11_token_101 (iX11_token_102 rfl rfl (iX11_token_105 (j := j) rfl rfl (by omega) (by decide) (iX11_token_106 (Nat.le_of_ble_eq_true rfl) (M_sort (iX11_token_109 (iX11_token_110 rfl rfl (iX11_token_113 (iX11_token_114 rfl rfl (iX11_token_117 (j := s0) rfl rfl (by omega) (by decide) (iX11_token_118 (Nat.le_of_ble_eq_true rfl) (M_sort ?_))))))))))))))))))))))
      refine iX11_token_121 (fun g2 => ?_) (fun g2 => ?_)
      · exact out j (by rw [← he, scn_stop hlt (fun z => g2 ((hP j).mpr z))])
      · rw [scn_step hlt ((hP j).mp g2)] at he
        have ih := ih he
        rw [← e1] at ih
        refine iX11_token_124 (iX11_token_125 rfl (iX11_token_126 rfl rfl (iX11_token_129 (iX11_token_130 (iX11_token_131 rfl (Nat.le_of_ble_eq_true rfl) (iX11_token_134 ?_))))))
        exact ih
  have mid : s0 ≤ l → V kX11_token 38 [some (.ref 16)] [] (mW R T K D (tkM s (nI s0) p0 e0)) 0 0 (qV Q) := by
    intro hs0l
    have e1 : nI s0 + 1 = nI (s0 + 1) := nI_1 s0
    refine iX11_token_38 (iX11_token_39 (iX11_token_40 rfl rfl (iX11_token_43 rfl (Nat.le_of_ble_eq_true rfl) (iX11_token_46 (iX11_token_47 rfl (iX11_token_48 rfl rfl (iX11_token_51 (iX11_token_52 rfl rfl (iX11_token_55 (iX11_token_56 rfl rfl ?_))))))))))
    refine iX11_token_59 (fun g => ?_) (fun g => ?_)
    · have g : nI l ≤ nI s0 := by rw [← hl]; exact g
      have e := eq_of hs0l (by omega) g
      have ho := out s0 (by unfold tE; rw [if_pos (by omega)])
      have e0' : nI s0 + 0 = nI s0 := Int32.add_zero _
      have ho2 : V kX11_token 137 [some (.ref 16)] [] (mW R T K D (tkM s (nI s0 + 0) (nI s0) e0)) 0 0 (qV Q) := by
        rw [e0']
        exact ho
      refine iX11_token_66 (iX11_token_67 (iX11_token_68 rfl (Nat.le_of_ble_eq_true rfl) (iX11_token_71 (iX11_token_72 rfl rfl (iX11_token_75 (iX11_token_76 rfl rfl ?_))))))
      refine iX11_token_79 (fun _ => ?_) (fun g2 => absurd ?_ g2)
      · exact ho2
      · show s 0 ≤ nI s0 + 0
        rw [hl, e0']
        exact g
    · have g : ¬ nI l ≤ nI s0 := by rw [← hl]; exact g
      have hlt := nlt_of (by omega) g
      have fin : V kX11_token 71 [some (.ref 16)] [] (mW R T K D (tkM s (nI (s0 + 1)) (nI s0) e0)) 0 0 (qV Q) := by
        by_cases a : isL T s0 = true
        · have z := srt1.mpr a
          refine loop2 (isL T) hlt (by rw [z]; decide) (fun i => by rw [z]; exact srt1) (s0 + 1) (by omega) ?_
          unfold tE tW
          rw [if_neg (by omega), if_pos a, scn_step hlt a]
        · by_cases b : isF T s0 = true
          · have z := srt2.mpr b
            refine loop2 (isF T) hlt (by rw [z]; decide) (fun i => by rw [z]; exact srt2) (s0 + 1) (by omega) ?_
            unfold tE tN
            rw [if_neg (by omega), if_neg a, if_pos b, scn_step hlt b]
          · have ho := out (s0 + 1) (by unfold tE; rw [if_neg (by omega), if_neg a, if_neg b])
            have z : srt (T s0) = 0 := by
              unfold srt
              rw [if_neg (fun q => a (by unfold isL; rw [decide_eq_true_iff]; exact q)), if_neg (fun q => b (by unfold isF; rw [decide_eq_true_iff]; exact q))]
            refine iX11_token_71 (iX11_token_72 rfl rfl (iX11_token_75 (iX11_token_76 rfl rfl ?_)))
            refine iX11_token_79 (fun _ => ho) (fun g2 => ?_)
            refine iX11_token_82 (iX11_token_83 rfl rfl (iX11_token_86 (iX11_token_87 rfl rfl (iX11_token_90 (j := s0) rfl rfl (by omega) (by decide) (iX11_token_91 (Nat.le_of_ble_eq_true rfl) (M_sort ?_))))))
            refine iX11_token_94 (fun _ => ho) (fun g3 => absurd (by rw [z]; decide) g3)
      rw [← e1] at fin
      refine iX11_token_62 (iX11_token_63 (iX11_token_67 (iX11_token_68 rfl (Nat.le_of_ble_eq_true rfl) ?_)))
      exact fin
  have loop1 : ∀ j, j ≤ l → scn (isB T) (l - j) j = s0 → V kX11_token 0 [some (.ref 16)] [] (mW R T K D (tkM s (nI j) p0 e0)) 0 0 (qV Q) := by
    refine dn l ?_
    intro j hj ih he
    refine iX11_token_0 (iX11_token_1 rfl rfl (iX11_token_4 (iX11_token_5 rfl rfl ?_)))
    refine iX11_token_8 (fun g => ?_) (fun g => ?_)
    · have g : nI l ≤ nI j := by rw [← hl]; exact g
      have e := eq_of hj (by omega) g
      rw [scn_end (by omega)] at he
      rw [he]
      exact mid (by omega)
    · have g : ¬ nI l ≤ nI j := by rw [← hl]; exact g
      have hlt := nlt_of (by omega) g
      have e1 : nI j + 1 = nI (j + 1) := nI_1 j
      refine iX11_token_11 (iX11_token_12 rfl rfl (iX11_token_15 (iX11_token_16 rfl rfl (iX11_token_19 (j := j) rfl rfl (by omega) (by decide) (iX11_token_20 ?_)))))
      refine iX11_token_22 (fun g2 => ?_) (fun g2 => ?_)
      · rw [scn_stop hlt (by unfold isB; rw [decide_eq_true_iff]; exact g2)] at he
        rw [he]
        exact mid (by omega)
      · rw [scn_step hlt (by unfold isB; rw [decide_eq_true_iff]; exact g2)] at he
        have ih := ih hlt he
        rw [← e1] at ih
        refine iX11_token_25 (iX11_token_26 rfl (iX11_token_27 rfl rfl (iX11_token_30 (iX11_token_31 (iX11_token_32 rfl (Nat.le_of_ble_eq_true rfl) (iX11_token_35 ?_))))))
        exact ih
  exact loop1 q hq hs0
end MTok
