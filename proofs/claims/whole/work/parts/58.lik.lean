theorem cpy0_i {n j : Nat} {f g : Nat → Int32} (h : j < n) : cpy0 n f g j = f j := by
  show va_cpy f g 0 0 n j = f j
  rw [pk_cpy_in (by omega) (by omega), show 0 + (j - 0) = j by omega]
section Lik
variable {c e : Ch} {R : Nat → Int32} {n d p u k B : Nat}
theorem lik_0 {i : Nat} (h : i < 20) : (lik c e).2 0 i = e.2 0 i := cpy0_i h
theorem lik_1 {i : Nat} (h : i < 5) : (lik c e).2 1 i = e.2 1 i := cpy0_i h
theorem lik_2 {i : Nat} (h : i < 9) : (lik c e).2 2 i = e.2 2 i := cpy0_i h
theorem lik_3 {i : Nat} (h : i < 9) : (lik c e).2 3 i = e.2 3 i := cpy0_i h
theorem lik_4 {i : Nat} (h : i < 9) : (lik c e).2 4 i = e.2 4 i := cpy0_i h
theorem lik_5 {i : Nat} (h : i < 12) : (lik c e).2 5 i = e.2 5 i := cpy0_i h
theorem lik_6 {i : Nat} (h : i < 12) : (lik c e).2 6 i = e.2 6 i := cpy0_i h
theorem lik_7 {i : Nat} (h : i < 6) : (lik c e).2 7 i = e.2 7 i := cpy0_i h
theorem lik_8 {i : Nat} (h : i < 6) : (lik c e).2 8 i = e.2 8 i := cpy0_i h
theorem lik_9 {i : Nat} (h : i < 6) : (lik c e).2 9 i = e.2 9 i := cpy0_i h
theorem lik_10 {i : Nat} (h : i < 6) : (lik c e).2 10 i = e.2 10 i := cpy0_i h
theorem lik_s (j : Nat) : (lik c e).1 j = e.1 j := rfl
theorem K_lik (r : Rl e R n d p u k) : Rl (lik c e) R n d p u k := by
  have hn20 := r.ok.2.1.1.2
  have hd5 := r.ok.2.1.2.1.2
  have hp9 := r.ok.2.2.1.1.2
  have hk6 := r.ok.2.1.2.2.2.1
  have hu12 := r.ok.2.2.2.2
  have hc := r.ok
  refine ⟨⟨hc.1, ⟨hc.2.1.1, hc.2.1.2.1, ⟨hc.2.1.2.2.1, hk6, fun i hi => ?_⟩⟩, ⟨hc.2.2.1.1, fun i hi => ?_⟩, hc.2.2.2.1, hu12⟩, r.e0, r.e1, r.e2, r.e3, r.e24, r.e35, r.e63, r.e88, fun i hi => (r.th i hi).trans (lik_0 (by omega)).symm, fun i hi => (r.dr i hi).trans (lik_1 (by omega)).symm, r.fl, fun i hi => (r.p0 i hi).trans (lik_2 (by omega)).symm, fun i hi => (r.p1 i hi).trans (lik_3 (by omega)).symm, fun i hi => (r.p2 i hi).trans (lik_4 (by omega)).symm, fun i hi => (r.m0 i hi).trans (lik_7 (by omega)).symm, fun i hi => (r.m1 i hi).trans (lik_8 (by omega)).symm, fun i hi => (r.m2 i hi).trans (lik_9 (by omega)).symm, fun i hi => (r.m3 i hi).trans (lik_10 (by omega)).symm, fun i hi => (r.a5 i hi).trans (lik_5 (by omega)).symm, fun i hi => (r.a6 i hi).trans (lik_6 (by omega)).symm⟩
  · obtain ⟨x, h1, h2⟩ := hc.2.1.2.2.2.2 i hi
    exact ⟨x, h1, (lik_7 (by omega)).trans h2⟩
  · obtain ⟨x, h1, h2⟩ := hc.2.2.1.2 i hi
    exact ⟨x, h1, (lik_3 (by omega)).trans h2⟩
theorem In_lik (iv : In e n d u B) (hn : n ≤ 20) (hd : d ≤ 5) (hu : u ≤ 12) : In (lik c e) n d u B := by
  obtain ⟨⟨h1, h2⟩, h3, h4, f, g, ⟨h6, h7, h8⟩, h9, h10, h11⟩ := iv
  refine ⟨⟨fun i hi => ?_, fun i hi => ?_⟩, h3, h4, f, g, ⟨⟨fun i hi => ?_, h7, h8⟩, h9, h10, ?_⟩⟩
  · rw [lik_0 (by omega)]
    exact h1 i hi
  · rw [lik_1 (by omega)]
    exact h2 i hi
  · rw [lik_5 (by omega), lik_6 (by omega)]
    exact h6 i hi
  · rw [wN_congr n (fun i hi => lik_0 (c := c) (e := e) (by omega))]
    exact h11
/-- only the row's first 113 places are tied -/
theorem Rl.far {R2 : Nat → Int32} (r : Rl c R n d p u k) (h : ∀ j, j < 113 → R2 j = R j) : Rl c R2 n d p u k := by
  have hn20 := r.ok.2.1.1.2
  have hd5 := r.ok.2.1.2.1.2
  have hp9 := r.ok.2.2.1.1.2
  have hk6 := r.ok.2.1.2.2.2.1
  have hu12 := r.ok.2.2.2.2
  exact ⟨r.ok, (h _ (by omega)).trans r.e0, (h _ (by omega)).trans r.e1, (h _ (by omega)).trans r.e2, (h _ (by omega)).trans r.e3, (h _ (by omega)).trans r.e24, (h _ (by omega)).trans r.e35, (h _ (by omega)).trans r.e63, (h _ (by omega)).trans r.e88, fun i hi => (h _ (by omega)).trans (r.th i hi), fun i hi => (h _ (by omega)).trans (r.dr i hi), fun i hi => (h _ (by omega)).trans (r.fl i hi), fun i hi => (h _ (by omega)).trans (r.p0 i hi), fun i hi => (h _ (by omega)).trans (r.p1 i hi), fun i hi => (h _ (by omega)).trans (r.p2 i hi), fun i hi => (h _ (by omega)).trans (r.m0 i hi), fun i hi => (h _ (by omega)).trans (r.m1 i hi), fun i hi => (h _ (by omega)).trans (r.m2 i hi), fun i hi => (h _ (by omega)).trans (r.m3 i hi), fun i hi => (h _ (by omega)).trans (r.a5 i hi), fun i hi => (h _ (by omega)).trans (r.a6 i hi)⟩
end Lik
