section Ask5
variable {c : Ch} {R T K D s : Nat → Int32} {n d p u k i : Nat} {x y z t w : Int32} {Q : Int32 → Wd → Prop} {ws : Wd}
theorem N_game {x2 y2 w : Int32} (r : Rl c R n d p u k) (sm : Sm c n d) (hb : ¬ ((0 ≤ x ∧ x ≤ 2) ∧ (0 ≤ y ∧ y ≤ 2) ∧ ¬ x = y ∧ (0 ≤ w ∧ w ≤ 1) ∧ (0 ≤ x2 ∧ x2 ≤ nI d - 1) ∧ (0 ≤ y2 ∧ y2 ≤ nI d - 1) ∧ ¬ x2 = y2) → Q (-10) (mW R T K D (bump s 1))) (ok : (0 ≤ x ∧ x ≤ 2) → (0 ≤ y ∧ y ≤ 2) → ¬ x = y → (0 ≤ w ∧ w ≤ 1) → ∀ i j, i < d → j < d → x2 = nI i → y2 = nI j → ¬ x2 = y2 → Q (if w = 0 then (gameS c n d k p x x2 y y2).1 else (gameS c n d k p x x2 y y2).2) (mW R T K D s)) : CallI kX11_game [.ref 16, .int x, .int x2, .int y, .int y2, .int w] (mW R T K D s) Q := by
  refine e_X11_game ?_
  have hd5 := r.ok.2.1.2.1.2
  have bad : ¬ ((0 ≤ x ∧ x ≤ 2) ∧ (0 ≤ y ∧ y ≤ 2) ∧ ¬ x = y ∧ (0 ≤ w ∧ w ≤ 1) ∧ (0 ≤ x2 ∧ x2 ≤ nI d - 1) ∧ (0 ≤ y2 ∧ y2 ≤ nI d - 1) ∧ ¬ x2 = y2) → V kX11_game 53 [some (.ref 16), some (.int x), some (.int x2), some (.int y), some (.int y2), some (.int w), none, none, none, none, none, none, none, none, none, none] [] (mW R T K D s) 0 0 (qI Q) := by
    intro q
    refine iX11_game_53 (iX11_game_54 (iX11_game_56 rfl (Nat.le_of_ble_eq_true rfl) (M_isBad ?_)))
    exact iX11_game_59 (hb q)
  refine iX11_game_0 ?_
  refine iX11_game_1 (Nat.le_of_ble_eq_true rfl) (M_isParty (fun a b => ?_) (fun a => ?_))
  · refine iX11_game_4 (fun h => False.elim (by revert h; decide)) (fun _ => (iX11_game_7 ?_))
    refine iX11_game_8 (Nat.le_of_ble_eq_true rfl) (M_isParty (fun a2 b2 => ?_) (fun a2 => ?_))
    · refine iX11_game_11 (fun h => False.elim (by revert h; decide)) (fun _ => (iX11_game_14 (iX11_game_15 ?_)))
      refine iX11_game_16 (fun g => ?_) (fun g => ?_)
      · exact bad (fun q => q.2.2.1 g)
      · refine iX11_game_19 (iX11_game_20 (iX11_game_21 rfl (Nat.le_of_ble_eq_true rfl) (M_isDoor r (fun i hi e => ?_) (fun a4 => ?_))))
        · refine iX11_game_24 (fun h => False.elim (by revert h; decide)) (fun _ => (iX11_game_27 (iX11_game_28 ?_)))
          refine iX11_game_30 rfl (Nat.le_of_ble_eq_true rfl) (M_isDoor r (fun j hj e2 => ?_) (fun a4 => ?_))
          · refine iX11_game_33 (fun h => False.elim (by revert h; decide)) (fun _ => (iX11_game_36 (iX11_game_37 ?_)))
            refine iX11_game_39 (fun g2 => ?_) (fun g2 => ?_)
            · exact bad (fun q => q.2.2.2.2.2.2 g2)
            · refine iX11_game_42 (iX11_game_44 (iX11_game_45 (iX11_game_46 ?_)))
              refine iX11_game_47 (Nat.le_of_ble_eq_true rfl) (S_in (lo := 0) (hi := 1) rfl rfl (fun a3 b3 => ?_) (fun a3 => ?_))
              · have ok := ok ⟨a, b⟩ ⟨a2, b2⟩ g ⟨a3, b3⟩ i j hi hj e e2 g2
                have hij : i ≠ j := fun f => g2 (by rw [e, e2, f])
                unfold gameS at ok
                generalize hg1 : (fun i => gn c n d k p (prW (c.1 5) x2 y2 i) x) = g1 at ok
                generalize hg2 : (fun i => gn c n d k p (prW (c.1 5) x2 y2 i) y) = g2' at ok
                obtain ⟨wm, hw, ew⟩ := sm.1
                have h5 := pow5 hd5
                have hpr : ∀ v, v < 4 → wth (wth (c.1 5) x2 (nI v / 2)) y2 (nI v - nI v / 2 * 2) = prW (c.1 5) x2 y2 v := fun v hv => by
                  rw [ew, e, e2]
                  exact gmA wm (by omega) i (by omega) j (by omega) hij v hv
                have k1 : ∀ v, gn c n d k p (prW (c.1 5) x2 y2 v) x = g1 v := fun v => by rw [← hg1]
                have k2 : ∀ v, gn c n d k p (prW (c.1 5) x2 y2 v) y = g2' v := fun v => by rw [← hg2]
                refine iX11_game_50 (fun _ => (iX11_game_60 (iX11_game_61 rfl (Nat.le_of_ble_eq_true rfl) (M_openSet r sm.1 (iX11_game_64 rfl (iX11_game_66 (iX11_game_67 rfl (iX11_game_69 (iX11_game_70 rfl (iX11_game_72 (iX11_game_73 rfl ?_))))))))))) (fun h => False.elim (by revert h; decide))
                have key : ∀ v, v ≤ 4 → ∀ x10 x11 x12 x13 x14 x15, V kX11_game 75 [some (.ref 16), some (.int x), some (.int x2), some (.int y), some (.int y2), some (.int w), some (.int (c.1 5)), some (.int (rsS g1 g2' v).1), some (.int (rsS g1 g2' v).2), some (.int (nI v)), x10, x11, x12, x13, x14, x15] [] (mW R T K D s) 0 0 (qI Q) := by
                  refine dn 4 ?_
                  intro v hv ih x10 x11 x12 x13 x14 x15
                  refine iX11_game_75 (iX11_game_77 ?_)
                  refine iX11_game_78 (fun q => ?_) (fun q => ?_)
                  · have e := eq_of (k := 4) hv (by omega) q
                    subst e
                    refine iX11_game_235 ?_
                    refine iX11_game_237 (fun q2 => ?_) (fun q2 => ?_)
                    · rw [if_neg q2] at ok
                      refine iX11_game_245 ?_
                      exact iX11_game_247 ok
                    · rw [if_pos q2] at ok
                      refine iX11_game_240 (iX11_game_242 ?_)
                      exact iX11_game_247 ok
                  · have hlt := nlt_of (k := 4) (by omega) q
                    have e1 : nI v + 1 = nI (v + 1) := nI_1 v
                    have cf := (rsS_CF g1 g2' v (by omega)).iff (by omega)
                    obtain ⟨b1, b2, b3, b4, b5, b6⟩ := gmB v hlt
                    have m1 : wth (wth (c.1 5) x2 (1 - nI v / 2)) y2 (nI v - nI v / 2 * 2) = prW (c.1 5) x2 y2 (v ^^^ 2) := by
                      rw [b1, b2]
                      exact hpr _ b5
                    have m2 : wth (wth (c.1 5) x2 (nI v / 2)) y2 (1 - (nI v - nI v / 2 * 2)) = prW (c.1 5) x2 y2 (v ^^^ 1) := by
                      rw [b4, b3]
                      exact hpr _ b6
                    have s2 : rsS g1 g2' (v + 1) = if rst g1 g2' v then ((rsS g1 g2' v).1 + 1, if (rsS g1 g2' v).2 = -1 then 10 * (nI v / 2) + (nI v - nI v / 2 * 2) else (rsS g1 g2' v).2) else rsS g1 g2' v := rfl
                    refine iX11_game_81 (iX11_game_83 (iX11_game_84 (by decide) (iX11_game_85 rfl (iX11_game_87 (iX11_game_89 (iX11_game_90 (by decide) (iX11_game_91 rfl (iX11_game_93 (iX11_game_95 (iX11_game_96 (iX11_game_98 (Nat.le_of_ble_eq_true rfl) (M_with (iX11_game_101 (iX11_game_103 (iX11_game_105 (Nat.le_of_ble_eq_true rfl) (M_with ?_))))))))))))))))
                    rw [hpr v hlt]
                    refine iX11_game_108 rfl (iX11_game_110 (iX11_game_112 (iX11_game_113 (iX11_game_114 (iX11_game_116 (iX11_game_117 (Nat.le_of_ble_eq_true rfl) (M_with (iX11_game_120 (iX11_game_122 (iX11_game_124 (Nat.le_of_ble_eq_true rfl) (M_with ?_)))))))))))
                    rw [m1]
                    refine iX11_game_127 rfl (iX11_game_129 (iX11_game_131 (iX11_game_132 (iX11_game_134 (Nat.le_of_ble_eq_true rfl) (M_with (iX11_game_137 (iX11_game_139 (iX11_game_140 (iX11_game_142 (iX11_game_143 (Nat.le_of_ble_eq_true rfl) (M_with ?_)))))))))))
                    rw [m2]
                    have no : ¬ rst g1 g2' v → V kX11_game 186 [some (.ref 16), some (.int x), some (.int x2), some (.int y), some (.int y2), some (.int w), some (.int (c.1 5)), some (.int (rsS g1 g2' v).1), some (.int (rsS g1 g2' v).2), some (.int (nI v)), some (.int (nI v / 2)), some (.int (nI v - nI v / 2 * 2)), some (.int (prW (c.1 5) x2 y2 v)), some (.int (prW (c.1 5) x2 y2 (v ^^^ 2))), some (.int (prW (c.1 5) x2 y2 (v ^^^ 1))), x15] [] (mW R T K D s) 0 0 (qI Q) := by
                      intro hr
                      rw [if_neg hr] at s2
                      refine iX11_game_186 (iX11_game_187 rfl (iX11_game_189 (iX11_game_191 (fun _ => (iX11_game_210 (iX11_game_212 rfl (iX11_game_214 (iX11_game_216 (iX11_game_218 (fun _ => (iX11_game_225 ?_)) (fun h => False.elim (by revert h; decide)))))))) (fun h => False.elim (by revert h; decide)))))
                      refine iX11_game_226 ?_
                      rw [Int32.add_zero]
                      refine iX11_game_227 rfl (iX11_game_229 rfl (iX11_game_232 ?_))
                      rw [e1]
                      have ih := ih hlt (some (.int (nI v / 2))) (some (.int (nI v - nI v / 2 * 2))) (some (.int (prW (c.1 5) x2 y2 v))) (some (.int (prW (c.1 5) x2 y2 (v ^^^ 2)))) (some (.int (prW (c.1 5) x2 y2 (v ^^^ 1)))) (some (.int 0))
                      rw [s2] at ih
                      exact ih
                    refine iX11_game_146 rfl (iX11_game_148 (iX11_game_149 (iX11_game_150 (iX11_game_152 rfl (Nat.le_of_ble_eq_true rfl) (M_gainOf r sm (iX11_game_155 (iX11_game_156 (iX11_game_157 (iX11_game_159 rfl (Nat.le_of_ble_eq_true rfl) (M_gainOf r sm ?_))))))))))
                    rw [k1, k1]
                    refine iX11_game_162 (fun q2 => ?_) (fun q2 => ?_)
                    · exact no (fun z => i32_len z.1 q2)
                    · refine iX11_game_165 (iX11_game_166 (iX11_game_167 (iX11_game_169 rfl (Nat.le_of_ble_eq_true rfl) (M_gainOf r sm (iX11_game_172 (iX11_game_173 (iX11_game_174 (iX11_game_176 rfl (Nat.le_of_ble_eq_true rfl) (M_gainOf r sm ?_)))))))))
                      rw [k2, k2]
                      refine iX11_game_179 (fun q3 => ?_) (fun q3 => ?_)
                      · exact no (fun z => i32_len z.2 q3)
                      · rw [if_pos ⟨i32_nlt q2, i32_nlt q3⟩] at s2
                        have ih := ih hlt (some (.int (nI v / 2))) (some (.int (nI v - nI v / 2 * 2))) (some (.int (prW (c.1 5) x2 y2 v))) (some (.int (prW (c.1 5) x2 y2 (v ^^^ 2)))) (some (.int (prW (c.1 5) x2 y2 (v ^^^ 1)))) (some (.int 1))
                        rw [s2] at ih
                        refine iX11_game_182 (iX11_game_183 (iX11_game_187 rfl (iX11_game_189 (iX11_game_191 (fun h => False.elim (by revert h; decide)) (fun _ => (iX11_game_194 ?_))))))
                        refine iX11_game_196 (fun q4 => ?_) (fun q4 => ?_)
                        · rw [if_neg (fun z => q4 (cf.mpr z))] at ih
                          refine iX11_game_210 (iX11_game_212 rfl (iX11_game_214 (iX11_game_216 (iX11_game_218 (fun h => False.elim (by revert h; decide)) (fun _ => (iX11_game_221 (iX11_game_222 (iX11_game_226 (iX11_game_227 rfl (iX11_game_229 rfl (iX11_game_232 ?_)))))))))))
                          rw [e1]
                          exact ih
                        · rw [if_pos (cf.mp q4)] at ih
                          refine iX11_game_199 (iX11_game_201 (iX11_game_203 (iX11_game_204 (iX11_game_206 (iX11_game_207 (iX11_game_212 rfl (iX11_game_214 (iX11_game_216 (iX11_game_218 (fun h => False.elim (by revert h; decide)) (fun _ => (iX11_game_221 (iX11_game_222 (iX11_game_226 (iX11_game_227 rfl (iX11_game_229 rfl (iX11_game_232 ?_))))))))))))))))
                          rw [e1]
                          exact ih
                exact key 0 (by omega) none none none none none none
              · refine iX11_game_50 (fun h => False.elim (by revert h; decide)) (fun _ => ?_)
                exact bad (fun q => a3 q.2.2.2.1)
          · refine iX11_game_33 (fun _ => ?_) (fun h => False.elim (by revert h; decide))
            exact bad (fun q => a4 q.2.2.2.2.2.1)
        · refine iX11_game_24 (fun _ => ?_) (fun h => False.elim (by revert h; decide))
          exact bad (fun q => a4 q.2.2.2.2.1)
    · refine iX11_game_11 (fun _ => ?_) (fun h => False.elim (by revert h; decide))
      exact bad (fun q => a2 q.2.1)
  · refine iX11_game_4 (fun _ => ?_) (fun h => False.elim (by revert h; decide))
    exact bad (fun q => a q.1)
theorem N_status (hb : ¬ (0 ≤ x ∧ x ≤ 2) → Q (-1) (mW R T K D (bump s 1))) (ok : ∀ m, m < 3 → x = nI m → Q (s (m + 1)) (mW R T K D s)) : CallI kX11_status [.ref 16, .int x] (mW R T K D s) Q := by
  refine e_X11_status ?_
  refine iX11_status_0 ?_
  refine iX11_status_1 (fun q0 => ?_) (fun q0 => ?_)
  · refine iX11_status_11 (iX11_status_12 ?_)
    refine iX11_status_13 (fun q1 => ?_) (fun q1 => ?_)
    · refine iX11_status_23 (iX11_status_24 ?_)
      refine iX11_status_25 (fun q2 => ?_) (fun q2 => ?_)
      · refine iX11_status_35 (iX11_status_36 (iX11_status_37 rfl (Nat.le_of_ble_eq_true rfl) (M_isBad ?_)))
        have f : ¬ (0 ≤ x ∧ x ≤ 2) := fun z => by
          obtain ⟨m, hm, e⟩ := nI_of2 (M := 2) (n := 2) (by decide) (i32_len z.1) z.2
          have f : m = 0 ∨ m = 1 ∨ m = 2 := by omega
          rcases f with f | f | f
          · exact q0 (by rw [e, f]; rfl)
          · exact q1 (by rw [e, f]; rfl)
          · exact q2 (by rw [e, f]; rfl)
        exact iX11_status_40 (hb f)
      · refine iX11_status_28 (iX11_status_29 rfl rfl (iX11_status_32 ?_))
        exact iX11_status_40 (ok 2 (by decide) q2)
    · refine iX11_status_16 (iX11_status_17 rfl rfl (iX11_status_20 ?_))
      exact iX11_status_40 (ok 1 (by decide) q1)
  · refine iX11_status_4 (iX11_status_5 rfl rfl (iX11_status_8 ?_))
    exact iX11_status_40 (ok 0 (by decide) q0)
theorem M_countOf {m : Nat} {F : Nat → Nat → Int32} (r : Rl c R n d p u k) (hl : F 1 0 = s 0) (hm : m ≤ 9) (h : Q (numO c F n m) (mW R T K D s)) : CallI kX11_countOf [.ref 16, .int (nI m)] (mW R T K D s) Q := by
  refine e_X11_countOf ?_
  refine iX11_countOf_0 ?_
  match m, hm, h with
  | 0, _, h =>
    refine iX11_countOf_1_0 ?_
    refine iX11_countOf_52 (iX11_countOf_53 rfl rfl (iX11_countOf_56 (iX11_countOf_57 (j := 0) rfl rfl (by decide) (by decide) ?_)))
    rw [r.e0]
    exact iX11_countOf_58 h
  | 1, _, h =>
    refine iX11_countOf_1_1 ?_
    refine iX11_countOf_59 (iX11_countOf_60 rfl rfl (iX11_countOf_63 (iX11_countOf_64 (j := 1) rfl rfl (by decide) (by decide) ?_)))
    rw [r.e1]
    exact iX11_countOf_65 h
  | 2, _, h =>
    refine iX11_countOf_1_2 ?_
    refine iX11_countOf_66 (iX11_countOf_67 (iX11_countOf_68 rfl (Nat.le_of_ble_eq_true rfl) (M_allWax r (Hw0 c) ?_)))
    exact iX11_countOf_71 h
  | 3, _, h =>
    refine iX11_countOf_1_3 ?_
    refine iX11_countOf_72 (iX11_countOf_73 rfl rfl (iX11_countOf_76 (iX11_countOf_77 (j := 2) rfl rfl (by decide) (by decide) ?_)))
    rw [r.e2]
    exact iX11_countOf_78 h
  | 4, _, h =>
    refine iX11_countOf_1_4 ?_
    refine iX11_countOf_79 (iX11_countOf_80 rfl rfl (iX11_countOf_83 (iX11_countOf_85 (j := 24) rfl rfl (by decide) (by decide) ?_)))
    rw [r.e24]
    exact iX11_countOf_86 h
  | 5, _, h =>
    refine iX11_countOf_1_5 ?_
    refine iX11_countOf_87 (iX11_countOf_88 rfl rfl (iX11_countOf_91 (iX11_countOf_93 (j := 35) rfl rfl (by decide) (by decide) ?_)))
    rw [r.e35]
    exact iX11_countOf_94 h
  | 6, _, h =>
    refine iX11_countOf_1_6 ?_
    refine iX11_countOf_95 (iX11_countOf_96 rfl rfl (iX11_countOf_99 (iX11_countOf_101 (j := 63) rfl rfl (by decide) (by decide) ?_)))
    rw [r.e63]
    exact iX11_countOf_102 h
  | 7, _, h =>
    refine iX11_countOf_1_7 ?_
    refine iX11_countOf_103 (iX11_countOf_104 rfl rfl (iX11_countOf_107 (iX11_countOf_108 (j := 3) rfl rfl (by decide) (by decide) ?_)))
    rw [r.e3]
    exact iX11_countOf_109 h
  | 8, _, h =>
    refine iX11_countOf_1_8 ?_
    refine iX11_countOf_110 (iX11_countOf_111 rfl rfl (iX11_countOf_114 (iX11_countOf_116 (j := 88) rfl rfl (by decide) (by decide) ?_)))
    rw [r.e88]
    exact iX11_countOf_117 h
  | 9, _, h =>
    have h : Q (F 1 0) (mW R T K D s) := h
    rw [hl] at h
    refine iX11_countOf_1_d (by decide) ?_
    refine iX11_countOf_118 (iX11_countOf_119 rfl rfl ?_)
    exact iX11_countOf_122 h
  | m + 10, hm, _ => exact absurd hm (by omega)
theorem N_count {F : Nat → Nat → Int32} (r : Rl c R n d p u k) (hl : F 1 0 = s 0) (hb : ¬ (0 ≤ x ∧ x ≤ 9) → Q (-2) (mW R T K D (bump s 1))) (ok : ∀ m, m ≤ 9 → x = nI m → Q (numO c F n m) (mW R T K D s)) : CallI kX11_count [.ref 16, .int x] (mW R T K D s) Q := by
  refine e_X11_count ?_
  refine iX11_count_0 (iX11_count_1 (iX11_count_2 (iX11_count_3 ?_)))
  refine iX11_count_6 (Nat.le_of_ble_eq_true rfl) (S_in (lo := 0) (hi := 9) rfl rfl (fun a b => ?_) (fun a => ?_))
  · obtain ⟨m, hm, e⟩ := nI_of2 (M := 9) (n := 9) (by decide) (i32_len a) b
    have fin := ok m hm e
    subst e
    refine iX11_count_9 (fun h => False.elim (by revert h; decide)) (fun _ => (iX11_count_12 (iX11_count_13 (iX11_count_14 rfl (Nat.le_of_ble_eq_true rfl) (M_countOf r hl hm (iX11_count_17 ?_))))))
    exact iX11_count_26 fin
  · refine iX11_count_9 (fun _ => (iX11_count_20 (iX11_count_21 (iX11_count_23 rfl (Nat.le_of_ble_eq_true rfl) (M_isBad ?_))))) (fun h => False.elim (by revert h; decide))
    exact iX11_count_26 (hb a)
end Ask5
