def pushR (R : Nat → Int32) (u : Nat) : Nat → Int32 := upd (upd (upd R (89 + 2 * u) (R 1)) (89 + 2 * u + 1) (R 3)) 88 (nI (u + 1))
def pushC (c : Ch) (u : Nat) : Ch := (upd c.1 7 (nI (u + 1)), va_up (va_up c.2 5 (upd (c.2 5) u (c.1 1))) 6 (upd (c.2 6) u (c.1 2)))
def shL (R : Nat → Int32) (q : Nat) : Nat → Int32 := fun j => if 89 ≤ j ∧ j < 89 + q then R (j + 2) else R j
def tickR (R : Nat → Int32) (b o t : Int32) : Nat → Int32 := upd (upd (upd R 1 b) 3 o) 2 t
def tickC (c : Ch) (b o t : Int32) : Ch := (upd (upd (upd c.1 1 b) 2 o) 3 t, c.2)
theorem K_push {c : Ch} {R : Nat → Int32} {n d p u k : Nat} (r : Rl c R n d p u k) (hu : u < 12) : Rl (pushC c u) (pushR R u) n d p (u + 1) k := by
  have hn20 := r.ok.2.1.1.2
  have hd5 := r.ok.2.1.2.1.2
  have hp9 := r.ok.2.2.1.1.2
  have hk6 := r.ok.2.1.2.2.2.1
  have hu12 := r.ok.2.2.2.2
  have hc := r.ok
  unfold pushC
  unfold pushR
  refine ⟨⟨hc.1, ⟨hc.2.1.1, hc.2.1.2.1, ⟨hc.2.1.2.2.1, hc.2.1.2.2.2⟩⟩, ⟨hc.2.2.1.1, hc.2.2.1.2⟩, rfl, by omega⟩, ?_, ?_, ?_, ?_, ?_, ?_, ?_, ?_, ?_, ?_, ?_, ?_, ?_, ?_, ?_, ?_, ?_, ?_, ?_, ?_⟩
  · rw [upN (by omega), upN (by omega), upN (by omega)]; exact r.e0
  · rw [upN (by omega), upN (by omega), upN (by omega)]; exact r.e1
  · rw [upN (by omega), upN (by omega), upN (by omega)]; exact r.e2
  · rw [upN (by omega), upN (by omega), upN (by omega)]; exact r.e3
  · rw [upN (by omega), upN (by omega), upN (by omega)]; exact r.e24
  · rw [upN (by omega), upN (by omega), upN (by omega)]; exact r.e35
  · rw [upN (by omega), upN (by omega), upN (by omega)]; exact r.e63
  · rw [upE]; rfl
  · intro i hi
    rw [upN (by omega), upN (by omega), upN (by omega)]; exact r.th i hi
  · intro i hi
    rw [upN (by omega), upN (by omega), upN (by omega)]; exact r.dr i hi
  · intro i hi
    rw [upN (by omega), upN (by omega), upN (by omega)]; exact r.fl i hi
  · intro i hi
    rw [upN (by omega), upN (by omega), upN (by omega)]; exact r.p0 i hi
  · intro i hi
    rw [upN (by omega), upN (by omega), upN (by omega)]; exact r.p1 i hi
  · intro i hi
    rw [upN (by omega), upN (by omega), upN (by omega)]; exact r.p2 i hi
  · intro i hi
    rw [upN (by omega), upN (by omega), upN (by omega)]; exact r.m0 i hi
  · intro i hi
    rw [upN (by omega), upN (by omega), upN (by omega)]; exact r.m1 i hi
  · intro i hi
    rw [upN (by omega), upN (by omega), upN (by omega)]; exact r.m2 i hi
  · intro i hi
    rw [upN (by omega), upN (by omega), upN (by omega)]; exact r.m3 i hi
  · intro i hi
    by_cases h : i = u
    · subst h
      rw [upN (by omega), upN (by omega), upE]
      exact r.e1.trans (upE (c.2 5) i (c.1 1)).symm
    · rw [upN (by omega), upN (by omega), upN (by omega)]
      exact (r.a5 i (by omega)).trans (upN h).symm
  · intro i hi
    by_cases h : i = u
    · subst h
      rw [upN (by omega), upE]
      exact r.e3.trans (upE (c.2 6) i (c.1 2)).symm
    · rw [upN (by omega), upN (by omega), upN (by omega)]
      exact (r.a6 i (by omega)).trans (upN h).symm
theorem K_tick {c : Ch} {R : Nat → Int32} {n d p u k : Nat} {b o t : Int32} (r : Rl c R n d p u k) : Rl (tickC c b o t) (tickR R b o t) n d p u k := by
  have hn20 := r.ok.2.1.1.2
  have hd5 := r.ok.2.1.2.1.2
  have hp9 := r.ok.2.2.1.1.2
  have hk6 := r.ok.2.1.2.2.2.1
  have hu12 := r.ok.2.2.2.2
  have hc := r.ok
  unfold tickC
  unfold tickR
  refine ⟨⟨hc.1, ⟨hc.2.1.1, hc.2.1.2.1, ⟨hc.2.1.2.2.1, hc.2.1.2.2.2⟩⟩, ⟨hc.2.2.1.1, hc.2.2.1.2⟩, hc.2.2.2.1, hc.2.2.2.2⟩, ?_, ?_, ?_, ?_, ?_, ?_, ?_, ?_, ?_, ?_, ?_, ?_, ?_, ?_, ?_, ?_, ?_, ?_, ?_, ?_⟩
  · rw [upN (by omega), upN (by omega), upN (by omega)]; exact r.e0
  · rw [upN (by omega), upN (by omega), upE]; rfl
  · rw [upE]; rfl
  · rw [upN (by omega), upE]; rfl
  · rw [upN (by omega), upN (by omega), upN (by omega)]; exact r.e24
  · rw [upN (by omega), upN (by omega), upN (by omega)]; exact r.e35
  · rw [upN (by omega), upN (by omega), upN (by omega)]; exact r.e63
  · rw [upN (by omega), upN (by omega), upN (by omega)]; exact r.e88
  · intro i hi
    rw [upN (by omega), upN (by omega), upN (by omega)]; exact r.th i hi
  · intro i hi
    rw [upN (by omega), upN (by omega), upN (by omega)]; exact r.dr i hi
  · intro i hi
    rw [upN (by omega), upN (by omega), upN (by omega)]; exact r.fl i hi
  · intro i hi
    rw [upN (by omega), upN (by omega), upN (by omega)]; exact r.p0 i hi
  · intro i hi
    rw [upN (by omega), upN (by omega), upN (by omega)]; exact r.p1 i hi
  · intro i hi
    rw [upN (by omega), upN (by omega), upN (by omega)]; exact r.p2 i hi
  · intro i hi
    rw [upN (by omega), upN (by omega), upN (by omega)]; exact r.m0 i hi
  · intro i hi
    rw [upN (by omega), upN (by omega), upN (by omega)]; exact r.m1 i hi
  · intro i hi
    rw [upN (by omega), upN (by omega), upN (by omega)]; exact r.m2 i hi
  · intro i hi
    rw [upN (by omega), upN (by omega), upN (by omega)]; exact r.m3 i hi
  · intro i hi
    rw [upN (by omega), upN (by omega), upN (by omega)]; exact r.a5 i hi
  · intro i hi
    rw [upN (by omega), upN (by omega), upN (by omega)]; exact r.a6 i hi
theorem shL_o {R : Nat → Int32} {q j : Nat} (h : j < 89 ∨ 89 + q ≤ j) : shL R q j = R j := if_neg (by omega)
theorem shL_i {R : Nat → Int32} {q j : Nat} (h : 89 ≤ j) (h2 : j < 89 + q) : shL R q j = R (j + 2) := if_pos ⟨h, h2⟩
theorem K_shift {c : Ch} {R : Nat → Int32} {n d p k : Nat} (r : Rl c R n d p 12 k) : Rl (c11 c) (upd (shL R 22) 88 (nI 11)) n d p 11 k := by
  have hn20 := r.ok.2.1.1.2
  have hd5 := r.ok.2.1.2.1.2
  have hp9 := r.ok.2.2.1.1.2
  have hk6 := r.ok.2.1.2.2.2.1
  have hu12 := r.ok.2.2.2.2
  have hc := r.ok
  refine ⟨⟨hc.1, ⟨hc.2.1.1, hc.2.1.2.1, ⟨hc.2.1.2.2.1, hc.2.1.2.2.2⟩⟩, ⟨hc.2.2.1.1, hc.2.2.1.2⟩, rfl, by omega⟩, ?_, ?_, ?_, ?_, ?_, ?_, ?_, ?_, ?_, ?_, ?_, ?_, ?_, ?_, ?_, ?_, ?_, ?_, ?_, ?_⟩
  · rw [upN (by omega), shL_o (by omega)]; exact r.e0
  · rw [upN (by omega), shL_o (by omega)]; exact r.e1
  · rw [upN (by omega), shL_o (by omega)]; exact r.e2
  · rw [upN (by omega), shL_o (by omega)]; exact r.e3
  · rw [upN (by omega), shL_o (by omega)]; exact r.e24
  · rw [upN (by omega), shL_o (by omega)]; exact r.e35
  · rw [upN (by omega), shL_o (by omega)]; exact r.e63
  · rw [upE]; rfl
  · intro i hi
    rw [upN (by omega), shL_o (by omega)]; exact r.th i hi
  · intro i hi
    rw [upN (by omega), shL_o (by omega)]; exact r.dr i hi
  · intro i hi
    rw [upN (by omega), shL_o (by omega)]; exact r.fl i hi
  · intro i hi
    rw [upN (by omega), shL_o (by omega)]; exact r.p0 i hi
  · intro i hi
    rw [upN (by omega), shL_o (by omega)]; exact r.p1 i hi
  · intro i hi
    rw [upN (by omega), shL_o (by omega)]; exact r.p2 i hi
  · intro i hi
    rw [upN (by omega), shL_o (by omega)]; exact r.m0 i hi
  · intro i hi
    rw [upN (by omega), shL_o (by omega)]; exact r.m1 i hi
  · intro i hi
    rw [upN (by omega), shL_o (by omega)]; exact r.m2 i hi
  · intro i hi
    rw [upN (by omega), shL_o (by omega)]; exact r.m3 i hi
  · intro i hi
    rw [upN (by omega), shL_i (by omega) (by omega)]
    have e : (c11 c).2 5 i = c.2 5 (i + 1) := by
      show va_cpy (c.2 5) (c.2 5) 1 0 11 i = _
      rw [pk_cpy_in (by omega) (by omega), show 1 + (i - 0) = i + 1 by omega]
    rw [e]
    exact r.a5 (i + 1) (by omega)
  · intro i hi
    rw [upN (by omega), shL_i (by omega) (by omega)]
    have e : (c11 c).2 6 i = c.2 6 (i + 1) := by
      show va_cpy (c.2 6) (c.2 6) 1 0 11 i = _
      rw [pk_cpy_in (by omega) (by omega), show 1 + (i - 0) = i + 1 by omega]
    rw [e]
    exact r.a6 (i + 1) (by omega)
