section Ask7
variable {c : Ch} {R T K D s : Nat → Int32} {n d p u k i : Nat} {x y z t w : Int32} {Q : Int32 → Wd → Prop} {ws : Wd}
theorem N_moths (r : Rl c R n d p u k) (sm : Sm c n d) (rg : Rg c n d) (hb : ¬ ((0 ≤ x ∧ x ≤ 60) ∧ (0 ≤ y ∧ y ≤ 100) ∧ (0 ≤ z ∧ z ≤ 999999)) → Q (-2) (mW R T K D (bump s 1))) (ok : (0 ≤ y ∧ y ≤ 100) → (0 ≤ z ∧ z ≤ 999999) → ∀ m, m ≤ 60 → x = nI m → Q (mthR c n d k m y.toInt64 z.toInt64) (mW R T K D s)) : CallI kX11_moths [.ref 16, .int x, .int y, .int z] (mW R T K D s) Q := by
  refine e_X11_moths ?_
  have hn20 := r.ok.2.1.1.2
  have hd5 := r.ok.2.1.2.1.2
  have hk6 := r.ok.2.1.2.2.2.1
  have bad : ¬ ((0 ≤ x ∧ x ≤ 60) ∧ (0 ≤ y ∧ y ≤ 100) ∧ (0 ≤ z ∧ z ≤ 999999)) → V kX11_moths 36 [some (.ref 16), some (.int x), some (.int y), some (.int z), none, none, none, none, none, none] [] (mW R T K D s) 0 0 (qI Q) := by
    intro q
    refine iX11_moths_36 (iX11_moths_37 (iX11_moths_39 rfl (Nat.le_of_ble_eq_true rfl) (M_isBad ?_)))
    exact iX11_moths_42 (hb q)
  refine iX11_moths_0 (iX11_moths_1 (iX11_moths_2 (iX11_moths_3 ?_)))
  refine iX11_moths_6 (Nat.le_of_ble_eq_true rfl) (S_in (lo := 0) (hi := 60) rfl rfl (fun a b => ?_) (fun a => ?_))
  · refine iX11_moths_9 (fun h => False.elim (by revert h; decide)) (fun _ => (iX11_moths_12 (iX11_moths_13 (iX11_moths_14 (iX11_moths_15 ?_)))))
    refine iX11_moths_18 (Nat.le_of_ble_eq_true rfl) (S_in (lo := 0) (hi := 100) rfl rfl (fun a2 b2 => ?_) (fun a2 => ?_))
    · refine iX11_moths_21 (fun h => False.elim (by revert h; decide)) (fun _ => (iX11_moths_24 (iX11_moths_25 (iX11_moths_26 (iX11_moths_27 ?_)))))
      refine iX11_moths_30 (Nat.le_of_ble_eq_true rfl) (S_in (lo := 0) (hi := 999999) rfl rfl (fun a3 b3 => ?_) (fun a3 => ?_))
      · obtain ⟨m, hm, e⟩ := nI_of2 (M := 60) (n := 60) (by decide) (i32_len a) b
        have fin := ok ⟨a2, b2⟩ ⟨a3, b3⟩ m hm e
        subst e
        have hA := rg.th hn20 n (Nat.le_refl _)
        generalize hAe : wN (c.2 0) n = A at hA
        unfold mthR at fin
        rw [hA.1] at fin
        have hS := mthS_r rg hn20 hd5 hk6 y.toInt64 z.toInt64
        have clip : ∀ v, v < 1000000 → (if nI A < nI v then nI A else nI v) = nI (min A v) := fun v hv => by
          by_cases g : A < v
          · rw [if_pos (nI_lt g (by omega)), Nat.min_eq_left (by omega)]
          · rw [if_neg (nI_nlt (by omega) (by omega)), Nat.min_eq_right (by omega)]
        have key : ∀ j, j ≤ m → ∀ v, v ≤ 180 + 28 * j → mthS c d k y.toInt64 z.toInt64 j = nI v → ∀ x9, V kX11_moths 65 [some (.ref 16), some (.int (nI m)), some (.int y), some (.int z), some (.long (mtX z.toInt64 j)), none, some (.int (nI A)), some (.int (nI (min A v))), some (.int (nI j)), x9] [] (mW R T K D s) 0 0 (qI Q) := by
          refine dn m ?_
          intro j hj ih v hvb hv x9
          refine iX11_moths_65 (iX11_moths_67 ?_)
          refine iX11_moths_68 (fun q => ?_) (fun q => ?_)
          · have e := eq_of hj (by omega) q
            subst e
            rw [hv, clip v (by omega)] at fin
            refine iX11_moths_163 ?_
            exact iX11_moths_165 fin
          · have hlt := nlt_of (by omega) q
            have e1 : nI j + 1 = nI (j + 1) := nI_1 j
            have e2 : mthS c d k y.toInt64 z.toInt64 (j + 1) = if lg_cmp (mtY z.toInt64 j) y.toInt64 < 0 then mthS c d k y.toInt64 z.toInt64 j else mthS c d k y.toInt64 z.toInt64 j + cFl c d k (c.1 3 + nI j) := rfl
            have ih := ih hlt
            refine iX11_moths_71 (iX11_moths_73 (iX11_moths_76 (iX11_moths_77 (iX11_moths_80 (iX11_moths_81 (iX11_moths_84 (by decide) (iX11_moths_85 rfl (iX11_moths_87 (iX11_moths_89 (iX11_moths_92 (by decide) (iX11_moths_93 (iX11_moths_96 (by decide) (iX11_moths_97 (iX11_moths_98 (iX11_moths_99 ?_)))))))))))))))
            change V kX11_moths 100 [some (.ref 16), some (.int (nI m)), some (.int y), some (.int z), some (.long (mtX z.toInt64 (j + 1))), none, some (.int (nI A)), some (.int (nI (min A v))), some (.int (nI j)), x9] [.int (lg_cmp (mtY z.toInt64 j) y.toInt64)] _ 0 0 _
            refine iX11_moths_100 (fun q2 => ?_) (fun q2 => ?_)
            · rw [if_neg (i32_len q2)] at e2
              obtain ⟨f, hf, ef⟩ := cFl_r rg hd5 hk6 (c.1 3 + nI j)
              rw [hv, ef, nI_add] at e2
              have ih := ih (v + f) (by omega) e2 (some (.int 0))
              have ht := tm_ok (j := j) sm (by omega)
              have e5 : stdy c d (c.1 5) + l_sum (bBre c.2 (c.1 3 + nI j)) k = nI f := ef
              refine iX11_moths_107 (iX11_moths_108 rfl (iX11_moths_110 (iX11_moths_112 (iX11_moths_114 (fun _ => (iX11_moths_121 (iX11_moths_122 (iX11_moths_123 rfl rfl (iX11_moths_126 (iX11_moths_127 (j := 2) rfl rfl (by decide) (by decide) ?_)))))) (fun h => False.elim (by revert h; decide))))))
              rw [r.e2]
              refine iX11_moths_128 (iX11_moths_130 (iX11_moths_131 (iX11_moths_132 rfl (Nat.le_of_ble_eq_true rfl) (M_openSet r sm.1 (iX11_moths_135 rfl (Nat.le_of_ble_eq_true rfl) (M_burnsBy r ht ?_))))))
              rw [e5]
              refine iX11_moths_138 ?_
              rw [nI_add]
              refine iX11_moths_139 rfl (iX11_moths_141 (iX11_moths_143 ?_))
              have hA9 := hA.2
              refine iX11_moths_145 (fun q3 => ?_) (fun q3 => ?_)
              · have hq := (nI_leI (by omega) (by omega)).mp q3
                have em : min A (v + f) = min A v + f := by omega
                rw [em] at ih
                refine iX11_moths_153 (iX11_moths_155 rfl (iX11_moths_157 rfl (iX11_moths_160 ?_)))
                rw [e1]
                exact ih
              · have hq : ¬ min A v + f ≤ A := fun z => q3 (nI_le z (by omega))
                have em : min A (v + f) = A := by omega
                rw [em] at ih
                refine iX11_moths_148 (iX11_moths_150 (iX11_moths_155 rfl (iX11_moths_157 rfl (iX11_moths_160 ?_))))
                rw [e1]
                exact ih
            · rw [if_pos (i32_nle q2), hv] at e2
              have ih := ih v (by omega) e2 (some (.int 1))
              refine iX11_moths_103 (iX11_moths_104 (iX11_moths_108 rfl (iX11_moths_110 (iX11_moths_112 (iX11_moths_114 (fun h => False.elim (by revert h; decide)) (fun _ => (iX11_moths_117 (iX11_moths_118 ?_))))))))
              refine iX11_moths_138 ?_
              rw [Int32.add_zero]
              refine iX11_moths_139 rfl (iX11_moths_141 (iX11_moths_143 (iX11_moths_145 (fun _ => (iX11_moths_153 (iX11_moths_155 rfl (iX11_moths_157 rfl (iX11_moths_160 ?_))))) (fun h => False.elim (by exact h (nI_le (by omega) (by omega)))))))
              rw [e1]
              exact ih
        obtain ⟨b, o, eb, eo, hob, hbw⟩ := rg.2.2
        refine iX11_moths_33 (fun _ => (iX11_moths_43 (iX11_moths_44 (iX11_moths_45 rfl (iX11_moths_47 (iX11_moths_48 (iX11_moths_49 rfl (Nat.le_of_ble_eq_true rfl) (M_allWax r (Hw0 c) (iX11_moths_52 rfl (iX11_moths_54 (iX11_moths_55 rfl rfl (iX11_moths_58 (iX11_moths_59 (j := 1) rfl rfl (by decide) (by decide) ?_))))))))))))) (fun h => False.elim (by revert h; decide))
        rw [hA.1, r.e1, eb]
        refine iX11_moths_60 rfl (iX11_moths_62 (iX11_moths_63 rfl ?_))
        have := key 0 (Nat.zero_le _) b (by omega) eb none
        rw [Nat.min_eq_right (by omega)] at this
        exact this
      · refine iX11_moths_33 (fun h => False.elim (by revert h; decide)) (fun _ => ?_)
        exact bad (fun q => a3 q.2.2)
    · refine iX11_moths_21 (fun _ => ?_) (fun h => False.elim (by revert h; decide))
      exact bad (fun q => a2 q.2.1)
  · refine iX11_moths_9 (fun _ => ?_) (fun h => False.elim (by revert h; decide))
    exact bad (fun q => a q.1)
theorem M_copy {f t : Nat} {Q : Wd → Prop} (hd : f + 113 ≤ t ∨ t + 113 ≤ f) (hf : f + 113 ≤ 452) (ht : t + 113 ≤ 452) (h : Q (mW (cpR R f t 113) T K D s)) : CallV kX11_copy [.ref 16, .int (nI f), .int (nI t)] (mW R T K D s) Q := by
  refine e_X11_copy ?_
  refine iX11_copy_0 (iX11_copy_1 rfl ?_)
  have key : ∀ j, j ≤ 113 → V kX11_copy 2 [some (.ref 16), some (.int (nI f)), some (.int (nI t)), some (.int (nI j))] [] (mW (cpR R f t j) T K D s) 0 0 (qV Q) := by
    refine dn 113 ?_
    intro j hj ih
    refine iX11_copy_2 (iX11_copy_3 ?_)
    refine iX11_copy_5 (fun q => ?_) (fun q => ?_)
    · have e := eq_of (k := 113) hj (by omega) q
      subst e
      exact iX11_copy_30 h
    · have hlt := nlt_of (k := 113) (by omega) q
      have ih := ih hlt
      have e1 : nI j + 1 = nI (j + 1) := nI_1 j
      refine iX11_copy_8 (iX11_copy_9 rfl rfl (iX11_copy_12 (iX11_copy_13 (iX11_copy_14 (iX11_copy_15 (iX11_copy_16 rfl rfl (iX11_copy_19 (iX11_copy_20 (iX11_copy_21 (iX11_copy_22 rfl (nI_add f j) (by omega) (by decide) ?_))))))))))
      rw [cpR_src hd hj hlt]
      refine iX11_copy_23 rfl (nI_add t j) (by omega) (by decide) ?_
      have e2 : (mW (cpR R f t j) T K D s).set 1 (ia 0 452 (upd (cpR R f t j) (t + j) (R (f + j)))) = mW (cpR R f t (j + 1)) T K D s := by
        rw [cpR_step]
        rfl
      rw [e2]
      refine iX11_copy_24 rfl (iX11_copy_27 ?_)
      rw [e1]
      exact ih
  have := key 0 (by omega)
  rw [cpR_0] at this
  exact this
theorem ix113 (m : Nat) : (113 : Int32) * (1 + nI m) = nI (113 * (1 + m)) := by
  rw [show (1 : Int32) = nI 1 from rfl, nI_add, show (113 : Int32) = nI 113 from rfl, nI_mul]
theorem N_image (hb : ¬ (0 ≤ x ∧ x ≤ 1) → Q (-2) (mW R T K D (bump s 1))) (ok : ∀ m, m < 2 → x = nI m → Q 1 (mW (cpR R 0 (113 * (1 + m)) 113) T (upd K m 1) D s)) : CallI kX11_image [.ref 16, .int x] (mW R T K D s) Q := by
  refine e_X11_image ?_
  refine iX11_image_0 (iX11_image_1 (iX11_image_2 (iX11_image_3 ?_)))
  refine iX11_image_4 (Nat.le_of_ble_eq_true rfl) (S_in (lo := 0) (hi := 1) rfl rfl (fun a b => ?_) (fun a => ?_))
  · obtain ⟨m, hm, e⟩ := nI_of2 (M := 1) (n := 1) (by decide) (i32_len a) b
    have fin := ok m (by omega) e
    subst e
    refine iX11_image_7 (fun _ => (iX11_image_17 (iX11_image_18 (iX11_image_19 (iX11_image_21 (iX11_image_22 (iX11_image_23 (iX11_image_24 ?_)))))))) (fun h => False.elim (by revert h; decide))
    rw [ix113 m]
    refine iX11_image_25 rfl (Nat.le_of_ble_eq_true rfl) (M_copy (f := 0) (by omega) (by omega) (by omega) (iX11_image_28 (iX11_image_29 rfl rfl (iX11_image_32 (iX11_image_33 (iX11_image_34z (j := m) rfl rfl (by omega) (by decide) (iX11_image_35 ?_)))))))
    exact iX11_image_36 fin
  · refine iX11_image_7 (fun h => False.elim (by revert h; decide)) (fun _ => (iX11_image_10 (iX11_image_11 (iX11_image_13 rfl (Nat.le_of_ble_eq_true rfl) (M_isBad ?_)))))
    exact iX11_image_16 (hb a)
theorem N_from (hb : ¬ (0 ≤ x ∧ x ≤ 1) → Q (-2) (mW R T K D (bump s 1))) (hn : ∀ m, m < 2 → x = nI m → K m = 0 → Q (-3) (mW R T K D (bump s 2))) (ok : ∀ m, m < 2 → x = nI m → ¬ K m = 0 → Q 1 (mW (cpR R (113 * (1 + m)) 0 113) T K D s)) : CallI kX11_from [.ref 16, .int x] (mW R T K D s) Q := by
  refine e_X11_from ?_
  refine iX11_from_0 (iX11_from_1 (iX11_from_2 (iX11_from_3 ?_)))
  refine iX11_from_4 (Nat.le_of_ble_eq_true rfl) (S_in (lo := 0) (hi := 1) rfl rfl (fun a b => ?_) (fun a => ?_))
  · obtain ⟨m, hm, e⟩ := nI_of2 (M := 1) (n := 1) (by decide) (i32_len a) b
    have f0 := hn m (by omega) e
    have f1 := ok m (by omega) e
    subst e
    refine iX11_from_7 (fun _ => (iX11_from_17 (iX11_from_18 rfl rfl (iX11_from_21 (iX11_from_22z (j := m) rfl rfl (by omega) (by decide) ?_))))) (fun h => False.elim (by revert h; decide))
    refine iX11_from_23 (fun q => ?_) (fun q => ?_)
    · refine iX11_from_31 (iX11_from_32 (iX11_from_34 (iX11_from_35 (iX11_from_36 (iX11_from_37 (iX11_from_38 ?_))))))
      rw [ix113 m]
      refine iX11_from_39 rfl (Nat.le_of_ble_eq_true rfl) (M_copy (t := 0) (by omega) (by omega) (by omega) (iX11_from_42 ?_))
      exact iX11_from_43 (f1 q)
    · refine iX11_from_26 (iX11_from_27 rfl (Nat.le_of_ble_eq_true rfl) (M_isNo ?_))
      exact iX11_from_30 (f0 q)
  · refine iX11_from_7 (fun h => False.elim (by revert h; decide)) (fun _ => (iX11_from_10 (iX11_from_11 (iX11_from_13 rfl (Nat.le_of_ble_eq_true rfl) (M_isBad ?_)))))
    exact iX11_from_16 (hb a)
theorem N_digest {F : Nat → Nat → Int32} {Z : Int64 → Wd → Prop} (r : Rl c R n d p u k) (hl : F 1 0 = s 0) (ok : Z (bDig c.2 (cDig c n d p (dgN c F n 10)) k) (mW R T K D s)) : CallL kX11_digest [.ref 16] (mW R T K D s) Z := by
  refine e_X11_digest ?_
  have hn20 := r.ok.2.1.1.2
  have hd5 := r.ok.2.1.2.1.2
  have hp9 := r.ok.2.2.1.1.2
  have hk6 := r.ok.2.1.2.2.2.1
  unfold cDig at ok
  generalize h10 : dgN c F n 10 = g0 at ok
  generalize hTh : dTh (c.2 0) g0 n = g1 at ok
  generalize hDo : dDo (c.2 1) (c.1 5) g1 d = g2 at ok
  generalize hPi : dPi c.2 g2 p = g3 at ok
  have st5 : ∀ i h, i < 4 * k → V kX11_digest 143 [some (.ref 16), some (.long (dg h (R (64 + i)))), none, some (.int (nI (i + 1)))] [] (mW R T K D s) 0 0 (qL Z) → V kX11_digest 143 [some (.ref 16), some (.long h), none, some (.int (nI i))] [] (mW R T K D s) 0 0 (qL Z) := by
    intro i h hi ih
    have e1 : nI i + 1 = nI (i + 1) := nI_1 i
    refine iX11_digest_143 (iX11_digest_144 (iX11_digest_145 (iX11_digest_146 rfl rfl (iX11_digest_149 (iX11_digest_151 (j := 63) rfl rfl (by decide) (by decide) ?_)))))
    rw [r.e63, r.ok.2.1.2.2.1]
    refine iX11_digest_152 ?_
    rw [show (4 : Int32) = nI 4 from rfl, nI_mul]
    refine iX11_digest_153 (fun h => False.elim (by exact nI_ge hi (by omega) h)) (fun _ => (iX11_digest_156 (iX11_digest_159 (iX11_digest_160 (iX11_digest_161 (iX11_digest_162 rfl rfl (iX11_digest_165 (iX11_digest_167 (iX11_digest_168 (iX11_digest_169 rfl (nI_add 64 i) (by omega) (by decide) (iX11_digest_170 (iX11_digest_171 (iX11_digest_172 rfl (iX11_digest_173 rfl (iX11_digest_176 ?_)))))))))))))))
    rw [e1]
    exact ih
  have loop5 : ∀ j, j ≤ k → V kX11_digest 143 [some (.ref 16), some (.long (bDig c.2 g3 j)), none, some (.int (nI (4 * j)))] [] (mW R T K D s) 0 0 (qL Z) := by
    refine dn k ?_
    intro j hj ih
    rcases Nat.lt_or_ge j k with hlt | hge
    · have ih := ih hlt
      have f0 : R (64 + 4 * j) = c.2 7 j := r.m0 j hlt
      have f1 : R (64 + (4 * j + 1)) = c.2 8 j := r.m1 j hlt
      have f2 : R (64 + (4 * j + 2)) = c.2 9 j := r.m2 j hlt
      have f3 : R (64 + (4 * j + 3)) = c.2 10 j := r.m3 j hlt
      refine st5 (4 * j) _ (by omega) (st5 (4 * j + 1) _ (by omega) (st5 (4 * j + 2) _ (by omega) (st5 (4 * j + 3) _ (by omega) ?_)))
      rw [f0, f1, f2, f3]
      exact ih
    · have e : j = k := by omega
      subst e
      refine iX11_digest_143 (iX11_digest_144 (iX11_digest_145 (iX11_digest_146 rfl rfl (iX11_digest_149 (iX11_digest_151 (j := 63) rfl rfl (by decide) (by decide) ?_)))))
      rw [r.e63, r.ok.2.1.2.2.1]
      refine iX11_digest_152 ?_
      rw [show (4 : Int32) = nI 4 from rfl, nI_mul]
      refine iX11_digest_153 (fun _ => (iX11_digest_179 ?_)) (fun h => False.elim (by exact h (Int32.le_refl _)))
      exact iX11_digest_180 ok
  have st4 : ∀ i h, i < 3 * p → V kX11_digest 105 [some (.ref 16), some (.long (dg h (R (36 + i)))), none, some (.int (nI (i + 1)))] [] (mW R T K D s) 0 0 (qL Z) → V kX11_digest 105 [some (.ref 16), some (.long h), none, some (.int (nI i))] [] (mW R T K D s) 0 0 (qL Z) := by
    intro i h hi ih
    have e1 : nI i + 1 = nI (i + 1) := nI_1 i
    refine iX11_digest_105 (iX11_digest_106 (iX11_digest_107 (iX11_digest_108 rfl rfl (iX11_digest_111 (iX11_digest_113 (j := 35) rfl rfl (by decide) (by decide) ?_)))))
    rw [r.e35, r.ok.2.2.1.1.1]
    refine iX11_digest_114 ?_
    rw [show (3 : Int32) = nI 3 from rfl, nI_mul]
    refine iX11_digest_115 (fun h => False.elim (by exact nI_ge hi (by omega) h)) (fun _ => (iX11_digest_118 (iX11_digest_121 (iX11_digest_122 (iX11_digest_123 (iX11_digest_124 rfl rfl (iX11_digest_127 (iX11_digest_129 (iX11_digest_130 (iX11_digest_131 rfl (nI_add 36 i) (by omega) (by decide) (iX11_digest_132 (iX11_digest_133 (iX11_digest_134 rfl (iX11_digest_135 rfl (iX11_digest_138 ?_)))))))))))))))
    rw [e1]
    exact ih
  have loop4 : ∀ j, j ≤ p → V kX11_digest 105 [some (.ref 16), some (.long (dPi c.2 g2 j)), none, some (.int (nI (3 * j)))] [] (mW R T K D s) 0 0 (qL Z) := by
    refine dn p ?_
    intro j hj ih
    rcases Nat.lt_or_ge j p with hlt | hge
    · have ih := ih hlt
      have f0 : R (36 + 3 * j) = c.2 2 j := r.p0 j hlt
      have f1 : R (36 + (3 * j + 1)) = c.2 3 j := r.p1 j hlt
      have f2 : R (36 + (3 * j + 2)) = c.2 4 j := r.p2 j hlt
      refine st4 (3 * j) _ (by omega) (st4 (3 * j + 1) _ (by omega) (st4 (3 * j + 2) _ (by omega) ?_))
      rw [f0, f1, f2]
      exact ih
    · have e : j = p := by omega
      subst e
      refine iX11_digest_105 (iX11_digest_106 (iX11_digest_107 (iX11_digest_108 rfl rfl (iX11_digest_111 (iX11_digest_113 (j := 35) rfl rfl (by decide) (by decide) ?_)))))
      rw [r.e35, r.ok.2.2.1.1.1]
      refine iX11_digest_114 ?_
      rw [show (3 : Int32) = nI 3 from rfl, nI_mul]
      refine iX11_digest_115 (fun _ => (iX11_digest_141 (iX11_digest_142 rfl ?_))) (fun h => False.elim (by exact h (Int32.le_refl _)))
      rw [hPi]
      exact loop5 0 (Nat.zero_le _)
  have st3 : ∀ i h, i < 2 * d → V kX11_digest 67 [some (.ref 16), some (.long (dg h (R (25 + i)))), none, some (.int (nI (i + 1)))] [] (mW R T K D s) 0 0 (qL Z) → V kX11_digest 67 [some (.ref 16), some (.long h), none, some (.int (nI i))] [] (mW R T K D s) 0 0 (qL Z) := by
    intro i h hi ih
    have e1 : nI i + 1 = nI (i + 1) := nI_1 i
    refine iX11_digest_67 (iX11_digest_68 (iX11_digest_69 (iX11_digest_70 rfl rfl (iX11_digest_73 (iX11_digest_75 (j := 24) rfl rfl (by decide) (by decide) ?_)))))
    rw [r.e24, r.ok.2.1.2.1.1]
    refine iX11_digest_76 ?_
    rw [show (2 : Int32) = nI 2 from rfl, nI_mul]
    refine iX11_digest_77 (fun h => False.elim (by exact nI_ge hi (by omega) h)) (fun _ => (iX11_digest_80 (iX11_digest_83 (iX11_digest_84 (iX11_digest_85 (iX11_digest_86 rfl rfl (iX11_digest_89 (iX11_digest_91 (iX11_digest_92 (iX11_digest_93 rfl (nI_add 25 i) (by omega) (by decide) (iX11_digest_94 (iX11_digest_95 (iX11_digest_96 rfl (iX11_digest_97 rfl (iX11_digest_100 ?_)))))))))))))))
    rw [e1]
    exact ih
  have loop3 : ∀ j, j ≤ d → V kX11_digest 67 [some (.ref 16), some (.long (dDo (c.2 1) (c.1 5) g1 j)), none, some (.int (nI (2 * j)))] [] (mW R T K D s) 0 0 (qL Z) := by
    refine dn d ?_
    intro j hj ih
    rcases Nat.lt_or_ge j d with hlt | hge
    · have ih := ih hlt
      have f0 : R (25 + 2 * j) = c.2 1 j := r.dr j hlt
      have f1 : R (25 + (2 * j + 1)) = if bitOn (c.1 5) j then 1 else 0 := r.fl j hlt
      refine st3 (2 * j) _ (by omega) (st3 (2 * j + 1) _ (by omega) ?_)
      rw [f0, f1]
      exact ih
    · have e : j = d := by omega
      subst e
      refine iX11_digest_67 (iX11_digest_68 (iX11_digest_69 (iX11_digest_70 rfl rfl (iX11_digest_73 (iX11_digest_75 (j := 24) rfl rfl (by decide) (by decide) ?_)))))
      rw [r.e24, r.ok.2.1.2.1.1]
      refine iX11_digest_76 ?_
      rw [show (2 : Int32) = nI 2 from rfl, nI_mul]
      refine iX11_digest_77 (fun _ => (iX11_digest_103 (iX11_digest_104 rfl ?_))) (fun h => False.elim (by exact h (Int32.le_refl _)))
      rw [hDo]
      exact loop4 0 (Nat.zero_le _)
  have loop2 : ∀ j, j ≤ n → V kX11_digest 33 [some (.ref 16), some (.long (dTh (c.2 0) g0 j)), none, some (.int (nI j))] [] (mW R T K D s) 0 0 (qL Z) := by
    refine dn n ?_
    intro j hj ih
    have e1 : nI j + 1 = nI (j + 1) := nI_1 j
    refine iX11_digest_33 (iX11_digest_34 (iX11_digest_35 rfl rfl (iX11_digest_38 (iX11_digest_39 (j := 0) rfl rfl (by decide) (by decide) ?_))))
    rw [r.e0, r.ok.2.1.1.1]
    refine iX11_digest_40 (fun q => ?_) (fun q => ?_)
    · have e := eq_of hj (by omega) q
      subst e
      refine iX11_digest_65 (iX11_digest_66 rfl ?_)
      rw [hTh]
      exact loop3 0 (Nat.zero_le _)
    · have hlt := nlt_of (by omega) q
      have ih := ih hlt
      refine iX11_digest_43 (iX11_digest_46 (iX11_digest_47 (iX11_digest_48 (iX11_digest_49 rfl rfl (iX11_digest_52 (iX11_digest_53 (iX11_digest_54 (iX11_digest_55 rfl (nI_add 4 j) (by omega) (by decide) ?_))))))))
      rw [r.th j hlt]
      refine iX11_digest_56 (iX11_digest_57 (iX11_digest_58 rfl (iX11_digest_59 rfl (iX11_digest_62 ?_))))
      rw [e1]
      exact ih
  refine iX11_digest_0 (iX11_digest_3 rfl (iX11_digest_4 (iX11_digest_5 rfl ?_)))
  have loop1 : ∀ j, j ≤ 10 → V kX11_digest 6 [some (.ref 16), some (.long (dgN c F n j)), none, some (.int (nI j))] [] (mW R T K D s) 0 0 (qL Z) := by
    refine dn 10 ?_
    intro j hj ih
    have e1 : nI j + 1 = nI (j + 1) := nI_1 j
    refine iX11_digest_6 (iX11_digest_7 ?_)
    refine iX11_digest_9 (fun q => ?_) (fun q => ?_)
    · have e := eq_of (k := 10) hj (by omega) q
      subst e
      refine iX11_digest_31 (iX11_digest_32 rfl ?_)
      rw [h10]
      exact loop2 0 (Nat.zero_le _)
    · have hlt := nlt_of (k := 10) (by omega) q
      have ih := ih hlt
      refine iX11_digest_12 (iX11_digest_15 (iX11_digest_16 (iX11_digest_17 (iX11_digest_18 (iX11_digest_19 rfl (Nat.le_of_ble_eq_true rfl) (M_countOf r hl (by omega) (iX11_digest_22 (iX11_digest_23 (iX11_digest_24 rfl (iX11_digest_25 rfl (iX11_digest_28 ?_)))))))))))
      rw [e1]
      exact ih
  exact loop1 0 (by omega)
end Ask7
