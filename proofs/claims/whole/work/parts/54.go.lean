theorem shL_0 (R : Nat → Int32) : shL R 0 = R := by
  funext j
  exact shL_o (by omega)
theorem shL_s (R : Nat → Int32) (q : Nat) : upd (shL R q) (89 + q) (R (89 + q + 2)) = shL R (q + 1) := by
  funext j
  by_cases h : j = 89 + q
  · subst h
    rw [upE, shL_i (by omega) (by omega)]
  · rw [upN h]
    by_cases g : 89 ≤ j ∧ j < 89 + q
    · rw [shL_i g.1 g.2, shL_i g.1 (by omega)]
    · rw [shL_o (by omega), shL_o (by omega)]
theorem cMin_eq (c : Ch) (n d u k : Nat) : cMin c n d u k = tickC (pushC c u) ((pushC c u).1 1 + cGo (pushC c u) n d k) ((pushC c u).1 2 + drip (cGo (pushC c u) n d k)) ((pushC c u).1 3 + 1) := rfl
theorem Sm.push {c : Ch} {n d u : Nat} (h : Sm c n d) : Sm (pushC c u) n d := h
theorem Sm.c11 {c : Ch} {n d : Nat} (h : Sm c n d) : Sm (c11 c) n d := h
section Go
variable {c : Ch} {R T K D s : Nat → Int32} {n d p u k i : Nat} {x y z t w : Int32} {ws : Wd}
theorem M_goTail {Q : Wd → Prop} {x1 x2 : Option Value} (r : Rl c R n d p u k) (sm : Sm c n d) (hu : u < 12) (hx1 : c1 x1 = true) (h : ∀ R', Rl (cMin c n d u k) R' n d p (u + 1) k → (∀ j, 113 ≤ j → R' j = R j) → Q (mW R' T K D s)) : V kX11_goOn 73 [some (.ref 16), x1, x2] [] (mW R T K D s) 0 0 (qV Q) := by
  have e88 : R 88 = nI u := by rw [r.e88, r.ok.2.2.2.1]
  have r1 := K_push r hu
  have sm1 : Sm (pushC c u) n d := sm.push
  have ht : 0 ≤ (pushC c u).1 3 := by
    have := tm_ok (j := 0) sm1 (by omega)
    rw [show nI 0 = 0 from rfl, Int32.add_zero] at this
    exact this
  refine iX11_goOn_73 (iX11_goOn_74 rfl rfl (iX11_goOn_77 (iX11_goOn_79 (iX11_goOn_80 (iX11_goOn_81 rfl rfl (iX11_goOn_84 (iX11_goOn_86 (j := 88) rfl rfl (by decide) (by decide) ?_)))))))
  rw [e88]
  refine iX11_goOn_87 (iX11_goOn_88 (iX11_goOn_89 (iX11_goOn_90 rfl rfl (iX11_goOn_93 (iX11_goOn_94 (j := 1) rfl rfl (by decide) (by decide) (iX11_goOn_95 rfl (ix2 89 2 u) (by omega) (by decide) (iX11_goOn_96 (iX11_goOn_97 rfl rfl (iX11_goOn_100 (iX11_goOn_102 (iX11_goOn_103 (iX11_goOn_104 rfl rfl (iX11_goOn_107 (iX11_goOn_109 (j := 88) rfl rfl (by decide) (by decide) ?_))))))))))))))
  rw [upN (by omega), e88]
  refine iX11_goOn_110 (iX11_goOn_111 (iX11_goOn_112 (iX11_goOn_113 (iX11_goOn_114 (iX11_goOn_115 rfl rfl (iX11_goOn_118 (iX11_goOn_119 (j := 3) rfl rfl (by decide) (by decide) ?_)))))))
  rw [upN (by omega)]
  refine iX11_goOn_120 rfl (ix3 89 2 u 1) (by omega) (by decide) (iX11_goOn_121 (iX11_goOn_122 rfl rfl (iX11_goOn_125 (iX11_goOn_127 rfl rfl (iX11_goOn_128 (j := 88) rfl rfl (by decide) (by decide) ?_)))))
  rw [upN (by omega), upN (by omega), e88]
  refine iX11_goOn_129 (iX11_goOn_130 ?_)
  rw [nI_1]
  refine iX11_goOn_131 (j := 88) rfl rfl (by decide) (by decide) ?_
  change V kX11_goOn 132 [some (.ref 16), x1, x2] [] (mW (pushR R u) T K D s) 0 0 _
  have hfar : ∀ b o t j, 113 ≤ j → tickR (pushR R u) b o t j = R j := fun b o t j hj => by
    unfold tickR pushR
    rw [upN (by omega), upN (by omega), upN (by omega), upN (by omega), upN (by omega), upN (by omega)]
  have hh := h (tickR (pushR R u) ((pushC c u).1 1 + cGo (pushC c u) n d k) ((pushC c u).1 2 + drip (cGo (pushC c u) n d k)) ((pushC c u).1 3 + 1)) (by rw [cMin_eq]; exact K_tick r1) (hfar _ _ _)
  generalize pushC c u = cc at r1 sm1 ht hh
  generalize pushR R u = RR at r1 hh
  refine iX11_goOn_132 (iX11_goOn_133 (iX11_goOn_134 rfl (Nat.le_of_ble_eq_true rfl) (M_allWax r1 (Hw0 cc) (iX11_goOn_137 (iX11_goOn_138 rfl rfl (iX11_goOn_141 (iX11_goOn_142 (j := 1) rfl rfl (by decide) (by decide) ?_)))))))
  rw [r1.e1]
  refine iX11_goOn_143 (iX11_goOn_144 rfl (iX11_goOn_145 (iX11_goOn_146 (iX11_goOn_147 rfl rfl (iX11_goOn_150 (iX11_goOn_151 (j := 2) rfl rfl (by decide) (by decide) ?_))))))
  rw [r1.e2]
  refine iX11_goOn_152 (iX11_goOn_153 rfl (Nat.le_of_ble_eq_true rfl) (M_openSet r1 sm1.1 (iX11_goOn_156 rfl (Nat.le_of_ble_eq_true rfl) (M_burnsBy r1 ht (iX11_goOn_159 rfl (iX11_goOn_160 (iX11_goOn_161 ?_)))))))
  have fin : ∀ v, v = cGo cc n d k → V kX11_goOn 170 [some (.ref 16), some (.int (l_sum (cc.2 0) n - cc.1 1)), some (.int (stdy cc d (cc.1 5) + l_sum (bBre cc.2 (cc.1 3)) k))] [.int v] (mW RR T K D s) 0 0 (qV Q) := by
    intro v hv
    have fin2 : ∀ q, q = drip v → V kX11_goOn 202 [some (.ref 16), some (.int (l_sum (cc.2 0) n - cc.1 1)), some (.int v)] [.int q, .int (cc.1 2), .int 3, .ref 17] (mW (upd RR 1 (cc.1 1 + v)) T K D s) 0 0 (qV Q) := by
      intro q hq
      subst hq
      subst hv
      refine iX11_goOn_202 (iX11_goOn_203 (j := 3) rfl rfl (by decide) (by decide) (iX11_goOn_204 (iX11_goOn_205 rfl rfl (iX11_goOn_208 (iX11_goOn_209 rfl rfl (iX11_goOn_210 (j := 2) rfl rfl (by decide) (by decide) ?_))))))
      rw [upN (by omega), upN (by omega), r1.e2]
      refine iX11_goOn_211 (iX11_goOn_212 (iX11_goOn_213 (j := 2) rfl rfl (by decide) (by decide) ?_))
      exact iX11_goOn_214 hh
    refine iX11_goOn_170 rfl (iX11_goOn_171 (iX11_goOn_172 rfl rfl (iX11_goOn_175 (iX11_goOn_176 rfl rfl (iX11_goOn_177 (j := 1) rfl rfl (by decide) (by decide) ?_)))))
    rw [r1.e1]
    refine iX11_goOn_178 (iX11_goOn_179 (iX11_goOn_180 (j := 1) rfl rfl (by decide) (by decide) (iX11_goOn_181 (iX11_goOn_182 rfl rfl (iX11_goOn_185 (iX11_goOn_186 rfl rfl (iX11_goOn_187 (j := 3) rfl rfl (by decide) (by decide) ?_)))))))
    rw [upN (by omega), r1.e3]
    refine iX11_goOn_188 (iX11_goOn_189 ?_)
    refine iX11_goOn_190 (fun g => ?_) (fun g => ?_)
    · refine iX11_goOn_201 ?_
      exact fin2 _ (by unfold drip; rw [if_pos g])
    · refine iX11_goOn_193 (iX11_goOn_194 (iX11_goOn_195 (iX11_goOn_196 (iX11_goOn_197 (by decide) (iX11_goOn_198 ?_)))))
      exact fin2 _ (by unfold drip; rw [if_neg g])
  have ec : cGo cc n d k = if l_sum (cc.2 0) n - cc.1 1 < stdy cc d (cc.1 5) + l_sum (bBre cc.2 (cc.1 3)) k then l_sum (cc.2 0) n - cc.1 1 else stdy cc d (cc.1 5) + l_sum (bBre cc.2 (cc.1 3)) k := rfl
  refine iX11_goOn_162 (fun g => ?_) (fun g => ?_)
  · refine iX11_goOn_169 ?_
    exact fin _ (by rw [ec, if_neg (i32_len g)])
  · refine iX11_goOn_165 (iX11_goOn_166 ?_)
    exact fin _ (by rw [ec, if_pos (i32_nle g)])
theorem M_goOn {Q : Wd → Prop} (r : Rl c R n d p u k) (sm : Sm c n d) (h : ∀ R', Rl (cPass c n d u k) R' n d p (uNx u) k → (∀ j, 113 ≤ j → R' j = R j) → Q (mW R' T K D s)) : CallV kX11_goOn [.ref 16] (mW R T K D s) Q := by
  refine e_X11_goOn ?_
  have hu12 := r.ok.2.2.2.2
  have e88 : R 88 = nI u := by rw [r.e88, r.ok.2.2.2.1]
  unfold cPass uNx at h
  by_cases hu : u = 12
  · subst hu
    rw [if_pos rfl, if_pos rfl] at h
    refine iX11_goOn_0 (iX11_goOn_1 rfl ?_)
    have key : ∀ q, q ≤ 22 → V kX11_goOn 2 [some (.ref 16), some (.int (nI q)), none] [] (mW (shL R q) T K D s) 0 0 (qV Q) := by
      refine dn 22 ?_
      intro q hq ih
      refine iX11_goOn_2 (iX11_goOn_3 ?_)
      refine iX11_goOn_5 (fun g => ?_) (fun g => ?_)
      · have e := eq_of (k := 22) hq (by omega) g
        subst e
        refine iX11_goOn_46 (iX11_goOn_47 rfl rfl (iX11_goOn_50 (iX11_goOn_52 rfl rfl (iX11_goOn_53 (j := 88) rfl rfl (by decide) (by decide) ?_))))
        rw [shL_o (by omega), e88]
        refine iX11_goOn_54 (iX11_goOn_55 rfl rfl (iX11_goOn_58 (iX11_goOn_60 (j := 88) rfl rfl (by decide) (by decide) ?_)))
        rw [shL_o (by omega), e88]
        refine iX11_goOn_61 (iX11_goOn_63 (fun h => False.elim (by exact h rfl)) (fun _ => (iX11_goOn_66 (iX11_goOn_67 ?_))))
        refine iX11_goOn_71 ?_
        rw [show nI 12 - 1 = nI 11 from rfl]
        refine iX11_goOn_72 (j := 88) rfl rfl (by decide) (by decide) ?_
        change V kX11_goOn 73 [some (.ref 16), _, _] [] (mW (upd (shL R 22) 88 (nI 11)) T K D s) 0 0 _
        refine M_goTail (K_shift r) sm.c11 (by decide) rfl (fun R' h1 h2 => h R' h1 (fun j hj => ?_))
        rw [h2 j hj, upN (by omega), shL_o (by omega)]
      · have hlt := nlt_of (k := 22) (by omega) g
        have ih := ih hlt
        have e1 : nI q + 1 = nI (q + 1) := nI_1 q
        refine iX11_goOn_8 (iX11_goOn_9 rfl rfl (iX11_goOn_12 (iX11_goOn_14 (j := 88) rfl rfl (by decide) (by decide) ?_)))
        rw [shL_o (by omega), e88]
        refine iX11_goOn_15 ?_
        refine iX11_goOn_17 (fun g2 => absurd rfl g2) (fun _ => ?_)
        refine iX11_goOn_20 (iX11_goOn_21 rfl rfl (iX11_goOn_24 (iX11_goOn_26 (iX11_goOn_27 (iX11_goOn_28 (iX11_goOn_29 rfl rfl (iX11_goOn_32 (iX11_goOn_34 (iX11_goOn_35 (iX11_goOn_36 (iX11_goOn_37 (iX11_goOn_38 rfl (show (89 : Int32) + nI q + 2 = nI (89 + q + 2) by rw [show (89 : Int32) = nI 89 from rfl, nI_add, show (2 : Int32) = nI 2 from rfl, nI_add]) (by omega) (by decide) ?_))))))))))))
        rw [shL_o (by omega)]
        refine iX11_goOn_39 (j := 89 + q) rfl (nI_add 89 q) (by omega) (by decide) ?_
        have e2 : (mW (shL R q) T K D s).set 1 (ia 0 452 (upd (shL R q) (89 + q) (R (89 + q + 2)))) = mW (shL R (q + 1)) T K D s := by
          rw [shL_s]
          rfl
        rw [e2]
        refine iX11_goOn_40 rfl (iX11_goOn_43 ?_)
        rw [e1]
        exact ih
    have := key 0 (by omega)
    rw [shL_0] at this
    exact this
  · rw [if_neg hu, if_neg hu] at h
    have hne : ¬ nI u = 12 := i32_ne9 (N := 12) (by omega) (by omega) hu
    refine iX11_goOn_0 (iX11_goOn_1 rfl (iX11_goOn_2 (iX11_goOn_3 (iX11_goOn_5 (fun h => False.elim (by revert h; decide)) (fun _ => (iX11_goOn_8 (iX11_goOn_9 rfl rfl (iX11_goOn_12 (iX11_goOn_14 (j := 88) rfl rfl (by decide) (by decide) ?_)))))))))
    rw [e88]
    refine iX11_goOn_15 ?_
    refine iX11_goOn_17 (fun _ => ?_) (fun g2 => absurd g2 hne)
    refine iX11_goOn_46 (iX11_goOn_47 rfl rfl (iX11_goOn_50 (iX11_goOn_52 rfl rfl (iX11_goOn_53 (j := 88) rfl rfl (by decide) (by decide) ?_))))
    rw [e88]
    refine iX11_goOn_54 (iX11_goOn_55 rfl rfl (iX11_goOn_58 (iX11_goOn_60 (j := 88) rfl rfl (by decide) (by decide) ?_)))
    rw [e88]
    refine iX11_goOn_61 (iX11_goOn_63 (fun _ => (iX11_goOn_70 ?_)) (fun h => False.elim (by exact hne h)))
    refine iX11_goOn_71 ?_
    rw [Int32.sub_zero]
    refine iX11_goOn_72 (j := 88) rfl rfl (by decide) (by decide) ?_
    have e2 : (mW R T K D s).set 1 (ia 0 452 (upd R 88 (nI u))) = mW R T K D s := by
      rw [← e88, upd_self]
      rfl
    rw [e2]
    exact M_goTail r sm (by omega) rfl h
end Go
