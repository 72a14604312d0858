theorem vuE {α : Type} (f : Nat → α) (i : Nat) (v : α) : va_up f i v i = v := if_pos rfl
theorem vuN {α : Type} {f : Nat → α} {i j : Nat} {v : α} (h : j ≠ i) : va_up f i v j = f j := if_neg h
theorem Tie.mono {c : Ch} {R : Nat → Int32} {B B2 : Nat} (h : Tie c R B) (hB : B ≤ B2) : Tie c R B2 := by
  obtain ⟨n, d, p, u, k, r, iv⟩ := h
  exact ⟨n, d, p, u, k, r, iv.mono hB⟩
theorem Tie.far {c : Ch} {R R2 : Nat → Int32} {B : Nat} (h : Tie c R B) (e : ∀ j, j < 113 → R2 j = R j) : Tie c R2 B := by
  obtain ⟨n, d, p, u, k, r, iv⟩ := h
  exact ⟨n, d, p, u, k, r.far e, iv⟩
theorem Tie.lik {c e : Ch} {R : Nat → Int32} {B : Nat} (h : Tie e R B) : Tie (lik c e) R B := by
  obtain ⟨n, d, p, u, k, r, iv⟩ := h
  exact ⟨n, d, p, u, k, K_lik r, In_lik iv r.ok.2.1.1.2 r.ok.2.1.2.1.2 r.ok.2.2.2.2⟩
/-- house and reference stand alike -/
def Jn (C : Nat → Ch) (F : Nat → Nat → Int32) (R T K s : Nat → Int32) (B : Nat) : Prop := Tie (C 0) R B ∧ ¬ (C 1).1 0 < 0 ∧ K = F 0 ∧ (∀ m, m < 2 → ¬ F 0 m = 0 → Tie (C (m + 2)) (fun j => R (113 * (1 + m) + j)) B) ∧ (s 1 = F 8 0 ∧ s 2 = F 8 1 ∧ s 3 = F 8 2) ∧ s 4 = 0 ∧ T = F 2 ∧ ∃ l, l ≤ 150 ∧ F 1 0 = nI l ∧ s 0 = nI l
theorem bmp_c {s f : Nat → Int32} (h1 : s 1 = f 0) (h2 : s 2 = f 1) (h3 : s 3 = f 2) (h4 : s 4 = 0) (a : Int32) : (bmp s a 1 = cntd f a 0 ∧ bmp s a 2 = cntd f a 1 ∧ bmp s a 3 = cntd f a 2) ∧ bmp s a 4 = 0 ∧ bmp s a 0 = s 0 := by
  unfold bmp cntd bump
  by_cases a2 : a = -2
  · rw [if_pos a2, if_pos a2, if_pos h4]
    refine ⟨⟨?_, ?_, ?_⟩, ?_, ?_⟩
    · rw [upE, upE, h1]
    · rw [upN (by decide), upN (by decide)]; exact h2
    · rw [upN (by decide), upN (by decide)]; exact h3
    · rw [upN (by decide)]; exact h4
    · rw [upN (by decide)]
  · rw [if_neg a2, if_neg a2]
    by_cases a3 : a = -3
    · rw [if_pos a3, if_pos a3, if_pos h4]
      refine ⟨⟨?_, ?_, ?_⟩, ?_, ?_⟩
      · rw [upN (by decide), upN (by decide)]; exact h1
      · rw [upE, upE, h2]
      · rw [upN (by decide), upN (by decide)]; exact h3
      · rw [upN (by decide)]; exact h4
      · rw [upN (by decide)]
    · rw [if_neg a3, if_neg a3]
      by_cases a4 : a = -4
      · rw [if_pos a4, if_pos a4, if_pos h4]
        refine ⟨⟨?_, ?_, ?_⟩, ?_, ?_⟩
        · rw [upN (by decide), upN (by decide)]; exact h1
        · rw [upN (by decide), upN (by decide)]; exact h2
        · rw [upE, upE, h3]
        · rw [upN (by decide)]; exact h4
        · rw [upN (by decide)]
      · rw [if_neg a4, if_neg a4]
        exact ⟨⟨h1, h2, h3⟩, h4, rfl⟩
section JnS
variable {C : Nat → Ch} {F G : Nat → Nat → Int32} {R R' T K s : Nat → Int32} {B B2 : Nat}
theorem Jn.mv {c : Ch} (j : Jn C F R T K s B) (hB : B ≤ B2) (t : Tie c R' B2) (far : ∀ q, 113 ≤ q → q < 339 → R' q = R q) (a : Int32) : Jn (va_up C 0 c) (va_up F 8 (cntd (F 8) a)) R' T K (bmp s a) B2 := by
  obtain ⟨h1, h2, h3, h4, ⟨h5, h6, h7⟩, h8, h9, l, h10, h11, h12⟩ := j
  have b := bmp_c h5 h6 h7 h8 a
  refine ⟨by rw [vuE]; exact t, by rw [vuN (by decide)]; exact h2, by rw [vuN (by decide)]; exact h3, fun m hm hk => ?_, by rw [vuE]; exact b.1, b.2.1, by rw [vuN (by decide)]; exact h9, l, h10, by rw [vuN (by decide)]; exact h11, b.2.2.trans h12⟩
  rw [vuN (by decide)] at hk
  rw [vuN (by omega)]
  exact ((h4 m hm hk).mono hB).far (fun q hq => far _ (by omega) (by omega))
theorem Jn.cn (j : Jn C F R T K s B) (hB : B ≤ B2) (a : Int32) : Jn C (va_up F 8 (cntd (F 8) a)) R T K (bmp s a) B2 := by
  have := j.mv hB (j.1.mono hB) (fun _ _ _ => rfl) a
  rw [va_upC] at this
  exact this
theorem Jn.bad (j : Jn C F R T K s B) (hB : B ≤ B2) : Jn C (badF F) R T K (bump s 1) B2 := by
  rw [← bmp_2]
  exact j.cn hB (-2)
theorem Jn.same (j : Jn C F R T K s B) (hB : B ≤ B2) (h : FEq F G) : Jn C G R T K s B2 := by
  obtain ⟨h1, h2, h3, h4, h5, h8, h9, l, h10, h11, h12⟩ := j
  refine ⟨h1.mono hB, h2, by rw [h 0 (Or.inl (by decide))]; exact h3, fun m hm hk => ?_, by rw [h 8 (Or.inr rfl)]; exact h5, h8, by rw [h 2 (Or.inl (by decide))]; exact h9, l, h10, by rw [h 1 (Or.inl (by decide))]; exact h11, h12⟩
  rw [h 0 (Or.inl (by decide))] at hk
  exact (h4 m hm hk).mono hB
theorem Jn.st (j : Jn C F R T K s B) (hB : B ≤ B2) : Jn C F R T K s B2 := j.same hB (FEq.rfl' F)
theorem Jn.mv0 {c : Ch} (j : Jn C F R T K s B) (hB : B ≤ B2) (t : Tie c R' B2) (far : ∀ q, 113 ≤ q → q < 339 → R' q = R q) : Jn (va_up C 0 c) F R' T K s B2 := by
  have := j.mv hB t far 0
  rw [bmp_p (show ¬ (0 : Int32) < 0 by decide), show cntd (F 8) 0 = F 8 from rfl, va_upC] at this
  exact this
end JnS
/-- what is asked of the second call when the first has answered v in the world w -/
def JQ (K2 : Kt) (As : List Value) (R T K D s : Nat → Int32) (B : Nat) : Int32 → Wd → Prop := fun v w => ∃ C' F', w = hW C' F' ∧ CallI K2 As (mW R T K D s) (fun v2 w2 => v2 = v ∧ ∃ R' T' K' D' s', w2 = mW R' T' K' D' s' ∧ Jn C' F' R' T' K' s' B)
def JL (K2 : Kt) (As : List Value) (R T K D s : Nat → Int32) (B : Nat) : Int64 → Wd → Prop := fun v w => ∃ C' F', w = hW C' F' ∧ CallL K2 As (mW R T K D s) (fun v2 w2 => v2 = v ∧ ∃ R' T' K' D' s', w2 = mW R' T' K' D' s' ∧ Jn C' F' R' T' K' s' B)
theorem nI_inj {x : Int32} {a b : Nat} (h : x = nI a) (g : x = nI b) (ha : a < 2147483648) (hb : b < 2147483648) : a = b := (nI_eq ha hb).mp (h.symm.trans g)
section J1
variable {C : Nat → Ch} {F : Nat → Nat → Int32} {R T K D s : Nat → Int32} {B : Nat} {x y z t w : Int32}
theorem J_candle (j : Jn C F R T K s B) : CallI kX10_candle [.ref 16, .int x] (hW C F) (JQ kX11_candle [.ref 16, .int x] R T K D s (B + 20)) := by
  refine H_candle ⟨_, _, rfl, N_candle (fun a => ?_) (fun m m1 m2 e => ?_)⟩
  · have e : fCandle (C 0) x = (-2, C 0) := if_neg a
    rw [e]
    refine ⟨rfl, R, T, K, D, _, rfl, ?_⟩
    rw [← bmp_2]
    exact j.mv (by omega) (j.1.mono (by omega)) (fun _ _ _ => rfl) (-2)
  · obtain ⟨n, d, p, u, k, r, iv⟩ := j.1
    have hn20 := r.ok.2.1.1.2
    have e0 : fCandle (C 0) x = ((C 0).1 0, lgt (C 0) x) := by
      refine if_pos ?_
      rw [e]
      exact ⟨nI_le (a := 1) m1 (by omega), nI_le (b := 20) m2 (by omega)⟩
    rw [e0, e]
    refine ⟨r.e0, bgR R m, T, K, D, s, rfl, ?_⟩
    have := j.mv (B2 := B + 20) (R' := bgR R m) (c := lgt (C 0) (nI m)) (by omega) ⟨m, 0, 0, 0, 0, K_candle m1 m2, In_candle m2⟩ (fun q hq _ => bg_far hq) ((C 0).1 0)
    rw [bmp_p (show ¬ (C 0).1 0 < 0 by rw [r.ok.2.1.1.1]; exact nI_pos (by omega))] at this
    exact this
theorem J_thick (j : Jn C F R T K s B) : CallI kX10_thick [.ref 16, .int x, .int y] (hW C F) (JQ kX11_thick [.ref 16, .int x, .int y] R T K D s (B + 20)) := by
  obtain ⟨n, d, p, u, k, r, iv⟩ := j.1
  exact H_thick r.ok ⟨_, _, rfl, G_thick j.1 (fun R' t far => ⟨rfl, R', T, K, D, _, rfl, j.mv (by omega) (t.mono (by omega)) (fun q hq _ => far q hq) _⟩)⟩
theorem J_door (j : Jn C F R T K s B) : CallI kX10_door [.ref 16, .int x] (hW C F) (JQ kX11_door [.ref 16, .int x] R T K D s (B + 20)) := by
  obtain ⟨n, d, p, u, k, r, iv⟩ := j.1
  exact H_door r.ok ⟨_, _, rfl, G_door j.1 (fun R' t far => ⟨rfl, R', T, K, D, _, rfl, j.mv (by omega) (t.mono (by omega)) (fun q hq _ => far q hq) _⟩)⟩
theorem J_open (j : Jn C F R T K s B) (hy : y = 0 ∨ y = 1) : CallI kX10_open [.ref 16, .int x, .int y] (hW C F) (JQ kX11_open [.ref 16, .int x, .int y] R T K D s (B + 20)) := by
  obtain ⟨n, d, p, u, k, r, iv⟩ := j.1
  exact H_open r.ok hy ⟨_, _, rfl, N_open hy (G_open hy j.1 (fun R' t far => ⟨rfl, R', T, K, D, _, rfl, j.mv (by omega) (t.mono (by omega)) (fun q hq _ => far q hq) _⟩))⟩
theorem J_pin (j : Jn C F R T K s B) : CallI kX10_pin [.ref 16, .int x, .int y] (hW C F) (JQ kX11_pin [.ref 16, .int x, .int y] R T K D s (B + 20)) := by
  obtain ⟨n, d, p, u, k, r, iv⟩ := j.1
  exact H_pin r.ok ⟨_, _, rfl, G_pin j.1 (fun R' t far => ⟨rfl, R', T, K, D, _, rfl, j.mv (by omega) (t.mono (by omega)) (fun q hq _ => far q hq) _⟩)⟩
theorem J_member (j : Jn C F R T K s B) : CallI kX10_member [.ref 16, .int x, .int y, .int z, .int t] (hW C F) (JQ kX11_member [.ref 16, .int x, .int y, .int z, .int t] R T K D s (B + 20)) := by
  obtain ⟨n, d, p, u, k, r, iv⟩ := j.1
  exact H_member r.ok ⟨_, _, rfl, G_member j.1 (fun R' t far => ⟨rfl, R', T, K, D, _, rfl, j.mv (by omega) (t.mono (by omega)) (fun q hq _ => far q hq) _⟩)⟩
theorem J_drop (j : Jn C F R T K s B) : CallI kX10_drop [.ref 16, .int x] (hW C F) (JQ kX11_drop [.ref 16, .int x] R T K D s (B + 20)) :=
  H_drop ⟨_, _, rfl, G_drop j.1 (fun R' t far => ⟨rfl, R', T, K, D, _, rfl, j.mv (by omega) (t.mono (by omega)) (fun q hq _ => far q hq) _⟩)⟩
theorem J_undo (j : Jn C F R T K s B) : CallI kX10_undo [.ref 16] (hW C F) (JQ kX11_undo [.ref 16] R T K D s (B + 20)) := by
  obtain ⟨n, d, p, u, k, r, iv⟩ := j.1
  exact H_undo r.ok ⟨_, _, rfl, G_undo j.1 (fun R' t far => ⟨rfl, R', T, K, D, _, rfl, j.mv (by omega) (t.mono (by omega)) (fun q hq _ => far q hq) _⟩)⟩
theorem nar_b : ∀ m, m < 128 → vp_nar .byte (nI m).toInt8.toInt32 = nI m := by decide +kernel
theorem J_type (j : Jn C F R T K s B) : CallI kX10_type [.ref 16, .int x] (hW C F) (JQ kX11_type [.ref 16, .int x] R T K D s (B + 20)) := by
  obtain ⟨l, hl, hF, hs⟩ := j.2.2.2.2.2.2.2
  refine H_type hF hl (fun a => ⟨_, _, rfl, N_type hs hl (fun _ => ⟨rfl, R, T, K, D, _, rfl, j.bad (by omega)⟩) (fun a1 a2 _ => absurd ⟨a1, a2⟩ a) (fun a1 a2 _ => absurd ⟨a1, a2⟩ a)⟩) (fun a1 a2 a3 => ⟨_, _, rfl, N_type hs hl (fun a => absurd ⟨a1, a2⟩ a) (fun _ _ _ => ⟨rfl, R, T, K, D, _, rfl, ?_⟩) (fun _ _ a4 => absurd a4 (by omega))⟩) (fun a1 a2 a3 => ⟨_, _, rfl, N_type hs hl (fun a => absurd ⟨a1, a2⟩ a) (fun _ _ a4 => absurd a4 (by omega)) (fun _ _ _ => ⟨rfl, R, _, K, D, _, rfl, ?_⟩)⟩)
  · rw [← bmp_4]
    exact j.cn (by omega) (-4)
  · obtain ⟨m, hm, e⟩ := nI_of2 (M := 127) (n := 127) (by decide) (i32_len a1) a2
    obtain ⟨h1, h2, h3, h4, h5, h8, h9, -⟩ := j
    have eb : vp_nar .byte x.toInt8.toInt32 = x := by
      rw [e]
      exact nar_b m (by omega)
    rw [eb]
    refine ⟨h1.mono (by omega), h2, h3, fun m hm hk => (h4 m hm hk).mono (by omega), h5, h8, ?_, l + 1, by omega, rfl, rfl⟩
    show upd T l x = upd (F 2) l x
    rw [h9]
theorem J_clear (j : Jn C F R T K s B) : CallI kX10_clear [.ref 16] (hW C F) (JQ kX11_clear [.ref 16] R T K D s (B + 20)) := by
  obtain ⟨h1, h2, h3, h4, h5, h8, h9, l, h10, h11, h12⟩ := j
  exact H_clear ⟨_, _, rfl, N_clear ⟨h12.trans h11.symm, R, T, K, D, _, rfl, h1.mono (by omega), h2, h3, fun m hm hk => (h4 m hm hk).mono (by omega), h5, h8, h9, 0, by omega, rfl, rfl⟩⟩
theorem J_read (j : Jn C F R T K s B) : CallI kX10_read [.ref 16] (hW C F) (JQ kX11_read [.ref 16] R T K D s (B + 20)) := by
  obtain ⟨h1, h2, h3, h4, ⟨h5, h6, h7⟩, h8, h9, l, h10, h11, h12⟩ := j
  subst h9
  have d0 := tlT_0 (B := F 2) (l := l) 151 0 0 (-1) (F 3) (C 1) h2
  refine H_read h11 h10 (fun g S2 nm2 hS => ⟨_, _, rfl, N_read (B := B) (c := C 1) (nm := F 3) h12 h10 h8 h2 (fun _ R' D' s' far low => ⟨rfl, R', F 2, K, D', s', rfl, ?_⟩) (fun g2 => absurd g g2)⟩) (fun g S2 nm2 hS => ⟨_, _, rfl, N_read (B := B) (c := C 1) (nm := F 3) h12 h10 h8 h2 (fun g2 => absurd g2 g) (fun _ R' D' s' ti far low => ⟨rfl, R', F 2, K, D', s', rfl, ?_⟩)⟩)
  · refine ⟨(h1.mono (by omega)).far (fun q hq => far q (by omega)), d0, h3, fun m hm hk => ((h4 m hm hk).mono (by omega)).far (fun q hq => far _ (by omega)), ⟨(low 1 (by omega)).trans h5, (low 2 (by omega)).trans h6, (low 3 (by omega)).trans h7⟩, (low 4 (by omega)).trans h8, rfl, l, h10, hS, (low 0 (by omega)).trans h12⟩
  · refine ⟨ti.lik.mono (by omega), d0, h3, fun m hm hk => ((h4 m hm hk).mono (by omega)).far (fun q hq => far _ (by omega) (by omega)), ⟨(low 1 (by omega)).trans h5, (low 2 (by omega)).trans h6, (low 3 (by omega)).trans h7⟩, (low 4 (by omega)).trans h8, rfl, l, h10, hS, (low 0 (by omega)).trans h12⟩
theorem J_minute (j : Jn C F R T K s B) (hB : B < 100000) : CallI kX10_minute [.ref 16, .int x] (hW C F) (JQ kX11_minute [.ref 16, .int x] R T K D s (B + 20)) := by
  obtain ⟨n, d, p, u, k, r, iv⟩ := j.1
  refine H_minute r.ok (fun a => ⟨_, _, rfl, N_minute r iv (by omega) (fun _ => ⟨rfl, R, T, K, D, _, rfl, j.bad (by omega)⟩) (fun m m1 m2 e => absurd ?_ a)⟩) (fun m m1 m2 e => ⟨_, _, rfl, N_minute r iv (by omega) (fun a => absurd ?_ a) (fun m' m1' m2' e' R' u' r' iv' far => ?_)⟩)
  · rw [e]
    exact ⟨nI_le (a := 1) m1 (by omega), nI_le (b := 20) m2 (by omega)⟩
  · rw [e]
    exact ⟨nI_le (a := 1) m1 (by omega), nI_le (b := 20) m2 (by omega)⟩
  · have em := nI_inj e e' (by omega) (by omega)
    subst em
    exact ⟨rfl, R', T, K, D, s, rfl, j.mv0 (by omega) ⟨n, d, p, u', k, r', iv'.mono (by omega)⟩ (fun q hq _ => far q hq)⟩
end J1
