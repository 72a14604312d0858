/-- what always holds of a chamber -/
def InP (c : Ch) (n u : Nat) (f g : Nat → Nat) : Prop := ((∀ i, i < u → c.2 5 i = nI (f i) ∧ c.2 6 i = nI (g i)) ∧ c.1 1 = nI (f u) ∧ c.1 2 = nI (g u)) ∧ (∀ i, i ≤ u → g i ≤ f i) ∧ (∀ i, i < u → f i ≤ f (i + 1)) ∧ f u ≤ wN (c.2 0) n
def In (c : Ch) (n d u B : Nat) : Prop := ((∀ i, i < n → ∃ m, (1 ≤ m ∧ m ≤ 9) ∧ c.2 0 i = nI m) ∧ (∀ i, i < d → ∃ m, m ≤ 3 ∧ c.2 1 i = nI m)) ∧ (∃ w, w < 2 ^ d ∧ c.1 5 = nI w) ∧ (∃ t, (u ≤ t ∧ t ≤ B) ∧ c.1 3 = nI t) ∧ ∃ f g, InP c n u f g
theorem In.rg {c : Ch} {n d u B : Nat} (h : In c n d u B) : Rg c n d := by
  obtain ⟨⟨h1, h2⟩, h3, h4, f, g, ⟨h5, h6, h7⟩, h8, h9, h10⟩ := h
  exact ⟨h1, h2, f u, g u, h6, h7, h8 u (Nat.le_refl _), h10⟩
theorem In.sm {c : Ch} {n d u B : Nat} (h : In c n d u B) (hB : B < 1000000) (hn : n ≤ 20) : Sm c n d := by
  have hw := (h.rg.th hn n (Nat.le_refl _))
  obtain ⟨⟨h1, h2⟩, h3, ⟨t, h4, h5⟩, f, g, ⟨h6, h7, h8⟩, h9, h10, h11⟩ := h
  refine ⟨h3, ⟨t, by omega, h5⟩, ?_⟩
  rw [hw.1, h7]
  exact nI_nlt h11 (by omega)
theorem In.mono {c : Ch} {n d u B B2 : Nat} (h : In c n d u B) (hB : B ≤ B2) : In c n d u B2 := by
  obtain ⟨h1, h3, ⟨t, h4, h5⟩, h6⟩ := h
  exact ⟨h1, h3, ⟨t, ⟨h4.1, Nat.le_trans h4.2 hB⟩, h5⟩, h6⟩
theorem drip_r {g : Nat} (h : g < 1000) : ∃ m, m ≤ g ∧ drip (nI g) = nI m := by
  unfold drip
  by_cases q : g ≤ 3
  · rw [if_pos (show nI g ≤ 3 from nI_le (b := 3) q (by omega))]
    exact ⟨0, by omega, rfl⟩
  · rw [if_neg (show ¬ nI g ≤ 3 from nI_ge (a := 3) (by omega) (by omega)), show (3 : Int32) = nI 3 from rfl, nI_sub (by omega), show (2 : Int32) = nI 2 from rfl, pk_div (by omega) (by omega) (by omega)]
    exact ⟨(g - 3) / 2, by omega, rfl⟩
theorem In.min {c : Ch} {n d u k B : Nat} (h : In c n d u B) (hn : n ≤ 20) (hd : d ≤ 5) (hk : k ≤ 6) : In (cMin c n d u k) n d (u + 1) (B + 1) := by
  have hw := (h.rg.th hn n (Nat.le_refl _))
  obtain ⟨fl, hfl, efl⟩ := cFl_r h.rg hd hk (c.1 3)
  obtain ⟨⟨h1, h2⟩, h3, ⟨t, h4, h5⟩, f, g, ⟨h6, h7, h8⟩, h9, h10, h11⟩ := h
  have hgo : ∃ m, m ≤ wN (c.2 0) n - f u ∧ cGo c n d k = nI m := by
    unfold cGo
    rw [hw.1, h7, efl, nI_sub h11]
    split
    · exact ⟨_, Nat.le_refl _, rfl⟩
    · rename_i q
      refine ⟨fl, ?_, rfl⟩
      rcases Nat.lt_or_ge (wN (c.2 0) n - f u) fl with a | a
      · exact absurd (nI_lt a (by omega)) q
      · exact a
  obtain ⟨go, hgo1, hgo2⟩ := hgo
  obtain ⟨dr, hdr1, hdr2⟩ := drip_r (g := go) (by omega)
  refine ⟨⟨h1, h2⟩, h3, ⟨t + 1, by omega, ?_⟩, fun i => if i ≤ u then f i else f u + go, fun i => if i ≤ u then g i else g u + dr, ⟨⟨?_, ?_, ?_⟩, ?_, ?_, ?_⟩⟩
  · show c.1 3 + 1 = _
    rw [h5, nI_1]
  · intro i hi
    show upd (c.2 5) u (c.1 1) i = nI (if i ≤ u then f i else f u + go) ∧ upd (c.2 6) u (c.1 2) i = nI (if i ≤ u then g i else g u + dr)
    rw [if_pos (show i ≤ u by omega), if_pos (show i ≤ u by omega)]
    by_cases q : i = u
    · subst q
      rw [upE, upE]
      exact ⟨h7, h8⟩
    · rw [upN q, upN q]
      exact h6 i (by omega)
  · show c.1 1 + cGo c n d k = nI (if u + 1 ≤ u then f (u + 1) else f u + go)
    rw [if_neg (by omega), h7, hgo2, nI_add]
  · show c.1 2 + drip (cGo c n d k) = nI (if u + 1 ≤ u then g (u + 1) else g u + dr)
    rw [if_neg (by omega), h8, hgo2, hdr2, nI_add]
  · intro i hi
    show (if i ≤ u then g i else g u + dr) ≤ (if i ≤ u then f i else f u + go)
    by_cases q : i ≤ u
    · rw [if_pos q, if_pos q]
      exact h9 i q
    · rw [if_neg q, if_neg q]
      have := h9 u (Nat.le_refl _)
      omega
  · intro i hi
    show (if i ≤ u then f i else f u + go) ≤ (if i + 1 ≤ u then f (i + 1) else f u + go)
    rw [if_pos (show i ≤ u by omega)]
    by_cases q : i + 1 ≤ u
    · rw [if_pos q]
      exact h10 i (by omega)
    · rw [if_neg q]
      have : i = u := by omega
      subst this
      omega
  · show (if u + 1 ≤ u then f (u + 1) else f u + go) ≤ wN (c.2 0) n
    rw [if_neg (by omega)]
    omega
theorem In.c11 {c : Ch} {n d B : Nat} (h : In c n d 12 B) : In (c11 c) n d 11 B := by
  obtain ⟨⟨h1, h2⟩, h3, ⟨t, h4, h5⟩, f, g, ⟨h6, h7, h8⟩, h9, h10, h11⟩ := h
  refine ⟨⟨h1, h2⟩, h3, ⟨t, by omega, h5⟩, fun i => f (i + 1), fun i => g (i + 1), ⟨⟨?_, h7, h8⟩, ?_, ?_, h11⟩⟩
  · intro i hi
    show va_cpy (c.2 5) (c.2 5) 1 0 11 i = _ ∧ va_cpy (c.2 6) (c.2 6) 1 0 11 i = _
    rw [pk_cpy_in (by omega) (by omega), pk_cpy_in (by omega) (by omega), show 1 + (i - 0) = i + 1 by omega]
    exact h6 (i + 1) (by omega)
  · intro i hi
    exact h9 (i + 1) (by omega)
  · intro i hi
    exact h10 (i + 1) (by omega)
theorem In.pass {c : Ch} {n d u k B : Nat} (h : In c n d u B) (hn : n ≤ 20) (hd : d ≤ 5) (hk : k ≤ 6) : In (cPass c n d u k) n d (uNx u) (B + 1) := by
  unfold cPass uNx
  by_cases q : u = 12
  · subst q
    rw [if_pos rfl, if_pos rfl]
    exact h.c11.min hn hd hk
  · rw [if_neg q, if_neg q]
    exact h.min hn hd hk
theorem In.back {c : Ch} {n d v B : Nat} (h : In c n d (v + 1) B) : In (cBack c v) n d v B := by
  obtain ⟨⟨h1, h2⟩, h3, ⟨t, h4, h5⟩, f, g, ⟨h6, h7, h8⟩, h9, h10, h11⟩ := h
  obtain ⟨q, hq⟩ : ∃ q, t = q + 1 := ⟨t - 1, by omega⟩
  refine ⟨⟨h1, h2⟩, h3, ⟨q, by omega, ?_⟩, f, g, ⟨⟨fun i hi => h6 i (by omega), (h6 v (by omega)).1, (h6 v (by omega)).2⟩, fun i hi => h9 i (by omega), fun i hi => h10 i (by omega), ?_⟩⟩
  · show c.1 3 - 1 = _
    rw [h5, hq, nI_pred]
  · have := h10 v (by omega)
    show f v ≤ wN (c.2 0) n
    omega
section Minute
variable {c : Ch} {R T K D s : Nat → Int32} {n d p u k B : Nat} {x : Int32} {Q : Int32 → Wd → Prop}
theorem N_minute (r : Rl c R n d p u k) (iv : In c n d u B) (hB : B + 20 < 1000000) (hb : ¬ (1 ≤ x ∧ x ≤ 20) → Q (-2) (mW R T K D (bump s 1))) (ok : ∀ m, 1 ≤ m → m ≤ 20 → x = nI m → ∀ R' u', Rl (cPassN n d k m c u) R' n d p u' k → In (cPassN n d k m c u) n d u' (B + m) → (∀ j, 113 ≤ j → R' j = R j) → Q ((cPassN n d k m c u).1 1) (mW R' T K D s)) : CallI kX11_minute [.ref 16, .int x] (mW R T K D s) Q := by
  refine e_X11_minute ?_
  have hn20 := r.ok.2.1.1.2
  have hd5 := r.ok.2.1.2.1.2
  have hk6 := r.ok.2.1.2.2.2.1
  refine iX11_minute_0 (iX11_minute_1 (iX11_minute_2 (iX11_minute_3 ?_)))
  refine iX11_minute_6 (Nat.le_of_ble_eq_true rfl) (S_in (lo := 1) (hi := 20) rfl rfl (fun a b => ?_) (fun a => ?_))
  · obtain ⟨m, hm, e⟩ := nI_of2 (M := 20) (n := 20) (by decide) (i32_len (Int32.le_trans (by decide : (0 : Int32) ≤ 1) a)) b
    have h1 : 1 ≤ m := (nI_leI (a := 1) (by omega) (by omega)).mp (by rw [← e]; exact a)
    have fin := ok m h1 hm e
    subst e
    refine iX11_minute_9 (fun _ => (iX11_minute_19 (iX11_minute_20 rfl ?_))) (fun h => False.elim (by revert h; decide))
    have key : ∀ j, j ≤ m → ∀ c' u' R', Rl c' R' n d p u' k → In c' n d u' (B + j) → (∀ q, 113 ≤ q → R' q = R q) → cPassN n d k (m - j) c' u' = cPassN n d k m c u → V kX11_minute 21 [some (.ref 16), some (.int (nI m)), some (.int (nI j))] [] (mW R' T K D s) 0 0 (qI Q) := by
      refine dn m ?_
      intro j hj ih c' u' R' r' iv' far he
      refine iX11_minute_21 (iX11_minute_22 ?_)
      refine iX11_minute_23 (fun g => ?_) (fun g => ?_)
      · have e := eq_of hj (by omega) g
        subst e
        rw [Nat.sub_self] at he
        have he : c' = cPassN n d k j c u := he
        have f2 := fin R' u' (by rw [← he]; exact r') (by rw [← he]; exact iv') far
        rw [← he] at f2
        refine iX11_minute_36 (iX11_minute_37 rfl rfl (iX11_minute_40 (iX11_minute_41 (j := 1) rfl rfl (by decide) (by decide) ?_)))
        rw [r'.e1]
        exact iX11_minute_42 f2
      · have hlt := nlt_of (by omega) g
        have e1 : nI j + 1 = nI (j + 1) := nI_1 j
        have ih := ih hlt
        refine iX11_minute_26 (iX11_minute_27 rfl (Nat.le_of_ble_eq_true rfl) (M_goOn r' (iv'.sm (by omega) hn20) (fun R2 h2 h3 => ?_)))
        refine iX11_minute_30 rfl (iX11_minute_33 ?_)
        rw [e1]
        refine ih (cPass c' n d u' k) (uNx u') R2 h2 (iv'.pass hn20 hd5 hk6) (fun q hq => by rw [h3 q hq, far q hq]) ?_
        rw [← he, show m - j = (m - (j + 1)) + 1 by omega]
        rfl
    exact key 0 (Nat.zero_le _) c u R r iv (fun _ _ => rfl) rfl
  · refine iX11_minute_9 (fun h => False.elim (by revert h; decide)) (fun _ => (iX11_minute_12 (iX11_minute_13 (iX11_minute_15 rfl (Nat.le_of_ble_eq_true rfl) (M_isBad ?_)))))
    exact iX11_minute_18 (hb a)
end Minute
