theorem cp_in {R : Nat → Int32} {f t j : Nat} (h : j < 113) : cpR R f t 113 (t + j) = R (f + j) := by
  unfold cpR
  rw [if_pos (by omega), show t + j - t = j by omega]
theorem cp_out {R : Nat → Int32} {f t j : Nat} (h : j < t ∨ t + 113 ≤ j) : cpR R f t 113 j = R j := by
  unfold cpR
  rw [if_neg (by omega)]
section TellM
variable {c : Ch} {R T K D s : Nat → Int32} {B i w : Nat} {Q : Int32 → Wd → Prop}
theorem M_tell (hs : ¬ s 4 = 0) (hi : i < 30) (hw : w < 6) (hD : D (5 * i) = nI w) (ti : (w = 0 ∧ ¬ c.1 0 < 0 ∧ ¬ R 0 < 0) ∨ Tie c R B) (h0 : (tlI D i c).1 < 0 → ∀ v R', v < 0 → (∀ j, 113 ≤ j → R' j = R j) → Q v (mW R' T K D s)) (h1 : ¬ (tlI D i c).1 < 0 → ∀ v R', ¬ v < 0 → Tie (tlI D i c).2 R' B → (∀ j, 113 ≤ j → R' j = R j) → Q v (mW R' T K D s)) : CallI kX11_tell [.ref 16, .int (nI (5 * i))] (mW R T K D s) Q := by
  refine e_X11_tell ?_
  have et : tlI D i c = tellF c w (fun j => D (5 * i + 1 + j)) := by
    show tellF c (tn (D (5 * i))) _ = _
    rw [hD, tn_nI (by omega)]
  rw [et] at h0 h1
  have e2 : nI (5 * i) + 2 = nI (5 * i + 1 + 1) := nI_add (5 * i) 2
  have e3 : nI (5 * i) + 3 = nI (5 * i + 1 + 2) := nI_add (5 * i) 3
  have e4 : nI (5 * i) + 4 = nI (5 * i + 1 + 3) := nI_add (5 * i) 4
  have fin : ∀ (a : Int32) (R' : Nat → Int32) (f : Ch), tellF c w (fun j => D (5 * i + 1 + j)) = (a, f) → Tie f R' B → (∀ j, 113 ≤ j → R' j = R j) → Q a (mW R' T K D (bmp s a)) := by
    intro a R' f e t far
    rw [bmp_si hs]
    rw [e] at h0 h1
    by_cases g : a < 0
    · exact h0 g a R' g far
    · exact h1 g a R' g t far
  refine iX11_tell_0 (iX11_tell_1 rfl rfl (iX11_tell_4 (iX11_tell_5 (iX11_tell_6 (iX11_tell_7 rfl (nI_1 (5 * i)) (by omega) (by decide) (iX11_tell_8 rfl (iX11_tell_9 (iX11_tell_10 rfl rfl (iX11_tell_13 (iX11_tell_14 (iX11_tell_15 (iX11_tell_16 rfl e2 (by omega) (by decide) (iX11_tell_17 rfl (iX11_tell_18 (iX11_tell_19 rfl rfl (iX11_tell_22 (iX11_tell_23 (j := 5 * i) rfl rfl (by omega) (by decide) ?_)))))))))))))))))
  rw [hD]
  have tie : ¬ w = 0 → Tie c R B := fun n => ti.resolve_left (fun z => n z.1)
  match w, hw, h0, h1, fin, tie with
  | 0, _, h0, h1, _, _ =>
    refine iX11_tell_24_0 ?_
    refine iX11_tell_60 (iX11_tell_61 ?_)
    refine iX11_tell_62 rfl (Nat.le_of_ble_eq_true rfl) (N_candle (fun a => ?_) (fun m m1 m2 e => ?_))
    · rw [bump_si hs]
      have e0 : tellF c 0 (fun j => D (5 * i + 1 + j)) = (-2, c) := if_neg a
      rw [e0] at h0
      exact iX11_tell_65 (h0 (show (-2 : Int32) < 0 by decide) (-2) R (by decide) (fun _ _ => rfl))
    · have e0 : tellF c 0 (fun j => D (5 * i + 1 + j)) = (c.1 0, lgt c (D (5 * i + 1))) := by
        refine if_pos ?_
        show 1 ≤ D (5 * i + 1) ∧ D (5 * i + 1) ≤ 20
        rw [e]
        exact ⟨nI_le (a := 1) m1 (by omega), nI_le (b := 20) m2 (by omega)⟩
      rw [e0, e] at h1
      have nn : ¬ c.1 0 < 0 ∧ ¬ R 0 < 0 := by
        rcases ti with z | ⟨n, d, p, u, k, r, iv⟩
        · exact z.2
        · have := r.ok.2.1.1.2
          rw [r.e0, r.ok.2.1.1.1]
          exact ⟨nI_pos (by omega), nI_pos (by omega)⟩
      exact iX11_tell_65 (h1 nn.1 (R 0) (bgR R m) nn.2 ⟨m, 0, 0, 0, 0, K_candle m1 m2, In_candle m2⟩ (fun j hj => bg_far hj))
  | 1, _, _, _, fin, tie =>
    refine iX11_tell_24_1 ?_
    refine iX11_tell_66 (iX11_tell_67 (iX11_tell_68 ?_))
    refine iX11_tell_69 rfl (Nat.le_of_ble_eq_true rfl) (G_thick (tie (by decide)) (fun R' t far => ?_))
    exact iX11_tell_72 (fin _ R' _ rfl t far)
  | 2, _, _, _, fin, tie =>
    refine iX11_tell_24_2 ?_
    refine iX11_tell_73 (iX11_tell_74 ?_)
    refine iX11_tell_75 rfl (Nat.le_of_ble_eq_true rfl) (G_door (tie (by decide)) (fun R' t far => ?_))
    exact iX11_tell_78 (fin _ R' _ rfl t far)
  | 3, _, _, _, fin, tie =>
    refine iX11_tell_24_3 ?_
    refine iX11_tell_79 (iX11_tell_80 (iX11_tell_81 ?_))
    refine iX11_tell_82 rfl (Nat.le_of_ble_eq_true rfl) (G_open (Or.inr rfl) (tie (by decide)) (fun R' t far => ?_))
    exact iX11_tell_85 (fin _ R' _ rfl t far)
  | 4, _, _, _, fin, tie =>
    refine iX11_tell_24_4 ?_
    refine iX11_tell_86 (iX11_tell_87 (iX11_tell_88 ?_))
    refine iX11_tell_89 rfl (Nat.le_of_ble_eq_true rfl) (G_pin (tie (by decide)) (fun R' t far => ?_))
    exact iX11_tell_92 (fin _ R' _ rfl t far)
  | 5, _, _, _, fin, tie =>
    refine iX11_tell_24_d (Or.inr (by decide)) ?_
    refine iX11_tell_93 (iX11_tell_94 (iX11_tell_95 (iX11_tell_96 (iX11_tell_97 rfl rfl (iX11_tell_100 (iX11_tell_101 (iX11_tell_102 (iX11_tell_103 rfl e3 (by omega) (by decide) (iX11_tell_104 (iX11_tell_105 rfl rfl (iX11_tell_108 (iX11_tell_109 (iX11_tell_110 (iX11_tell_111 rfl e4 (by omega) (by decide) ?_))))))))))))))
    refine iX11_tell_112 rfl (Nat.le_of_ble_eq_true rfl) (G_member (tie (by decide)) (fun R' t far => ?_))
    exact iX11_tell_115 (fin _ R' _ rfl t far)
  | w + 6, hw, _, _, _, _ => exact absurd hw (by omega)
end TellM
section ReadM
variable {c : Ch} {R T K D s nm : Nat → Int32} {B l : Nat} {Q : Int32 → Wd → Prop}
theorem N_read (hl : s 0 = nI l) (hl2 : l ≤ 150) (hs : s 4 = 0) (hc : ¬ c.1 0 < 0) (h0 : (tlT T l 151 0 0 (-1) nm c).1 ≤ 0 → ∀ R' D' s', (∀ j, j < 339 → R' j = R j) → (∀ j, j ≤ 4 → s' j = s j) → Q (tlT T l 151 0 0 (-1) nm c).1 (mW R' T K D' s')) (h1 : ¬ (tlT T l 151 0 0 (-1) nm c).1 ≤ 0 → ∀ R' D' s', Tie (tlT T l 151 0 0 (-1) nm c).2 R' B → (∀ j, 113 ≤ j → j < 339 → R' j = R j) → (∀ j, j ≤ 4 → s' j = s j) → Q (tlT T l 151 0 0 (-1) nm c).1 (mW R' T K D' s')) : CallI kX11_read [.ref 16] (mW R T K D s) Q := by
  refine e_X11_read ?_
  refine iX11_read_0 (iX11_read_1 rfl (Nat.le_of_ble_eq_true rfl) (M_fault hl hl2 (fun m D0 D' g f s' ch hm m30 hf hp low => ?_) (fun m D' g s' ch m1 m30 h3 hs8 low => ?_)))
  · have e := tl_fault ch hm m30 hp 0 (Nat.zero_le _) (-1) nm c
    rw [ch.1] at e
    have e : (tlT T l 151 0 0 (-1) nm c).1 = -10 - nI f := e
    rw [e] at h0
    have neg : (-10 : Int32) - nI f ≤ 0 := by
      rcases Nat.lt_or_ge f 151 with z | z
      · exact (by decide +kernel : ∀ f, f < 151 → (-10 : Int32) - nI f ≤ 0) f z
      · omega
    have fin := h0 neg R D' s' (fun _ _ => rfl) low
    refine iX11_read_4 rfl (iX11_read_5 (iX11_read_6 ?_))
    refine iX11_read_7 (fun z => ?_) (fun z => ?_)
    · exact absurd z (nI_nm1 (by omega))
    · refine iX11_read_10 (iX11_read_12 (iX11_read_13 ?_))
      exact iX11_read_14 fin
  · have e := tl_ok ch m30 m1 h3 0 (Nat.zero_le _) nm c
    rw [ch.1] at e
    have e : tlT T l 151 0 0 (-1) nm c = tlD D' m 0 c := e
    rw [e] at h0 h1
    have s4 : s' 4 = 0 := (low 4 (by omega)).trans hs
    have m29 : m < 30 ∨ m = 30 := by omega
    refine iX11_read_4 rfl (iX11_read_5 (iX11_read_6 (iX11_read_7 (fun _ => (iX11_read_15 (iX11_read_16 (iX11_read_17 ?_)))) (fun h => False.elim (by revert h; decide)))))
    refine iX11_read_20 rfl (Nat.le_of_ble_eq_true rfl) (M_copy (f := 0) (t := 339) (by omega) (by omega) (by omega) ?_)
    refine iX11_read_23 (iX11_read_24 ?_)
    refine iX11_read_26 rfl (Nat.le_of_ble_eq_true rfl) (M_begin (m := 10) (by omega) ?_)
    refine iX11_read_29 (iX11_read_30 (iX11_read_31 rfl rfl rfl (Nat.le_of_ble_eq_true rfl) (iX11_read_34 (iX11_read_35 rfl ?_))))
    change V kX11_read 36 _ _ (mW (bgR (cpR R 0 339 113) 10) T K D' (upd s' 4 1)) 0 0 _
    have out : ∀ j R' c', j ≤ m → (j < m → ∀ q, 113 ≤ q → R' q = cpR R 0 339 113 q) → (j < m → tlD D' m 0 c = (-1000 - nI j, c')) → (j = m → tlD D' m 0 c = (nI m, c') ∧ Tie c' R' B ∧ ∀ q, 113 ≤ q → R' q = cpR R 0 339 113 q) → V kX11_read 60 [some (.ref 16), some (.int (-1)), some (.int (nI j))] [] (mW R' T K D' (upd s' 4 1)) 0 0 (qI Q) := by
      intro j R' c' hj far a b
      have low2 : ∀ q, q ≤ 4 → upd (upd s' 4 1) 4 0 q = s q := fun q hq => by
        by_cases e4 : q = 4
        · subst e4
          rw [upE, hs]
        · rw [upN e4, upN e4]
          exact low q hq
      have h8 : upd (upd s' 4 1) 4 0 8 = nI m := by
        rw [upN (by omega), upN (by omega)]
        exact hs8
      refine iX11_read_60 (iX11_read_61 (iX11_read_62 rfl rfl rfl (Nat.le_of_ble_eq_true rfl) ?_))
      change V kX11_read 65 _ _ (mW R' T K D' (upd (upd s' 4 1) 4 0)) 0 0 _
      refine iX11_read_65 (iX11_read_66 (iX11_read_67 rfl rfl ?_))
      rw [h8]
      refine iX11_read_70 (fun z => ?_) (fun z => ?_)
      · have ej := eq_of hj (by omega) z
        obtain ⟨b1, b2, b3⟩ := b ej
        rw [b1] at h1
        have fin := h1 (fun z2 => by
          have := nI_le (a := 1) (b := m) m1 (by omega)
          exact absurd (Int32.le_trans this z2) (by decide)) R' D' (upd (upd s' 4 1) 4 0) b2 (fun q q1 q2 => (b3 q q1).trans (cp_out (by omega))) low2
        refine iX11_read_87 (iX11_read_88 rfl rfl ?_)
        rw [h8]
        exact iX11_read_91 fin
      · have hlt := nlt_of (by omega) z
        have far := far hlt
        rw [a hlt] at h0
        have neg : (-1000 : Int32) - nI j ≤ 0 := (by decide +kernel : ∀ f, f < 31 → (-1000 : Int32) - nI f ≤ 0) j (by omega)
        have fin := h0 neg (cpR R' 339 0 113) D' (upd (upd s' 4 1) 4 0) (fun q hq => by
          rcases Nat.lt_or_ge q 113 with z2 | z2
          · have e1 := cp_in (R := R') (f := 339) (t := 0) z2
            rw [show 0 + q = q by omega] at e1
            rw [e1, far _ (by omega), cp_in z2, show 0 + q = q by omega]
          · rw [cp_out (by omega), far _ z2, cp_out (by omega)]) low2
        refine iX11_read_73 (iX11_read_74 (iX11_read_77 ?_))
        refine iX11_read_78 rfl (Nat.le_of_ble_eq_true rfl) (M_copy (f := 339) (t := 0) (by omega) (by omega) (by omega) ?_)
        refine iX11_read_81 (iX11_read_84 (iX11_read_85 ?_))
        exact iX11_read_86 fin
    have key : ∀ j, j ≤ m → ∀ R' c', (j = 0 ∧ ¬ c'.1 0 < 0 ∧ ¬ R' 0 < 0) ∨ Tie c' R' B → (∀ q, 113 ≤ q → R' q = cpR R 0 339 113 q) → tlD D' (m - j) j c' = tlD D' m 0 c → V kX11_read 36 [some (.ref 16), some (.int (-1)), some (.int (nI j))] [] (mW R' T K D' (upd s' 4 1)) 0 0 (qI Q) := by
      refine dn m ?_
      intro j hj ih R' c' ti far he
      have h8 : upd s' 4 1 8 = nI m := by
        rw [upN (by omega)]
        exact hs8
      refine iX11_read_36 (iX11_read_37 (iX11_read_38 rfl rfl ?_))
      rw [h8]
      refine iX11_read_41 (fun z => ?_) (fun z => ?_)
      · have ej := eq_of hj (by omega) z
        subst ej
        rw [Nat.sub_self] at he
        refine out j R' c' (Nat.le_refl _) (fun q => absurd q (by omega)) (fun q => absurd q (by omega)) (fun _ => ⟨he.symm, ?_, far⟩)
        rcases ti with z2 | z2
        · exact absurd z2.1 (by omega)
        · exact z2
      · have hlt := nlt_of (by omega) z
        have ih := ih hlt
        obtain ⟨-, w, hw, hw0, d0, -⟩ := ch.2 j hlt
        have e1 : nI j + 1 = nI (j + 1) := nI_1 j
        have e2 : tlD D' (m - j) j c' = if (tlI D' j c').1 < 0 then (-1000 - nI j, (tlI D' j c').2) else tlD D' (m - (j + 1)) (j + 1) (tlI D' j c').2 := by
          rw [show m - j = (m - (j + 1)) + 1 by omega]
          rfl
        rw [e2] at he
        refine iX11_read_44 (iX11_read_45 (iX11_read_46 ?_))
        refine iX11_read_47 ?_
        rw [show (5 : Int32) * nI j = nI (5 * j) by rw [show (5 : Int32) = nI 5 from rfl, nI_mul]]
        refine iX11_read_48 rfl (Nat.le_of_ble_eq_true rfl) (M_tell (c := c') (B := B) (w := w) (by rw [upE]; decide) (by omega) hw d0 ?_ (fun g v R2 hv far2 => ?_) (fun g v R2 hv t2 far2 => ?_))
        · rcases ti with z2 | z2
          · exact Or.inl ⟨hw0.mpr z2.1, z2.2⟩
          · exact Or.inr z2
        · rw [if_pos g] at he
          refine iX11_read_51 (fun g2 => ?_) (fun g2 => ?_)
          · exact out j R2 (tlI D' j c').2 hj (fun _ q hq => (far2 q hq).trans (far q hq)) (fun _ => he.symm) (fun q => absurd q (by omega))
          · exact absurd hv g2
        · rw [if_neg g] at he
          refine iX11_read_51 (fun g2 => ?_) (fun g2 => ?_)
          · exact absurd g2 hv
          · refine iX11_read_54 rfl (iX11_read_57 ?_)
            rw [e1]
            exact ih R2 (tlI D' j c').2 (Or.inr t2) (fun q hq => (far2 q hq).trans (far q hq)) he
    refine key 0 (Nat.zero_le _) (bgR (cpR R 0 339 113) 10) c (Or.inl ⟨rfl, hc, ?_⟩) (fun q hq => bg_far hq) rfl
    show ¬ upd _ 0 (nI 10) 0 < 0
    rw [upE]
    decide
end ReadM
