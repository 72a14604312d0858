theorem bit_off : ∀ d, d < 5 → ∀ w, w < 2 ^ d → ¬ bitOn (nI w) d := by decide +kernel
theorem bit_x : ∀ w, w < 32 → ∀ q, q < 5 → ∀ i, i < 5 → (bitOn (nI w ^^^ ((1 : Int32) <<< (nI q &&& 31))) i ↔ if i = q then ¬ bitOn (nI w) i else bitOn (nI w) i) := by decide +kernel
theorem msk_x : ∀ d, d < 6 → ∀ w, w < 2 ^ d → ∀ q, q < d → nI w ^^^ ((1 : Int32) <<< (nI q &&& 31)) = nI (w ^^^ 2 ^ q) ∧ w ^^^ 2 ^ q < 2 ^ d := by decide +kernel
theorem K_thick {c : Ch} {R : Nat → Int32} {n d p u k : Nat} {q : Nat} {y : Int32} (r : Rl c R n d p u k) (hq : q < n) : Rl (c.1, va_up c.2 0 (upd (c.2 0) q y)) (upd R (4 + q) y) n d p u k := by
  have hn20 := r.ok.2.1.1.2
  have hd5 := r.ok.2.1.2.1.2
  have hp9 := r.ok.2.2.1.1.2
  have hk6 := r.ok.2.1.2.2.2.1
  have hu12 := r.ok.2.2.2.2
  have hc := r.ok
  refine ⟨⟨hc.1, ⟨hc.2.1.1, hc.2.1.2.1, ⟨hc.2.1.2.2.1, hc.2.1.2.2.2⟩⟩, ⟨hc.2.2.1.1, hc.2.2.1.2⟩, hc.2.2.2.1, hc.2.2.2.2⟩, ?_, ?_, ?_, ?_, ?_, ?_, ?_, ?_, ?_, ?_, ?_, ?_, ?_, ?_, ?_, ?_, ?_, ?_, ?_, ?_⟩
  · rw [upN (by omega)]; exact r.e0
  · rw [upN (by omega)]; exact r.e1
  · rw [upN (by omega)]; exact r.e2
  · rw [upN (by omega)]; exact r.e3
  · rw [upN (by omega)]; exact r.e24
  · rw [upN (by omega)]; exact r.e35
  · rw [upN (by omega)]; exact r.e63
  · rw [upN (by omega)]; exact r.e88
  · intro i hi
    by_cases h : i = q
    · subst h
      rw [upE]; exact (upE (c.2 0) i y).symm
    · rw [upN (by omega)]; exact (r.th i hi).trans (upN h).symm
  · intro i hi
    rw [upN (by omega)]; exact r.dr i hi
  · intro i hi
    rw [upN (by omega)]; exact r.fl i hi
  · intro i hi
    rw [upN (by omega)]; exact r.p0 i hi
  · intro i hi
    rw [upN (by omega)]; exact r.p1 i hi
  · intro i hi
    rw [upN (by omega)]; exact r.p2 i hi
  · intro i hi
    rw [upN (by omega)]; exact r.m0 i hi
  · intro i hi
    rw [upN (by omega)]; exact r.m1 i hi
  · intro i hi
    rw [upN (by omega)]; exact r.m2 i hi
  · intro i hi
    rw [upN (by omega)]; exact r.m3 i hi
  · intro i hi
    rw [upN (by omega)]; exact r.a5 i hi
  · intro i hi
    rw [upN (by omega)]; exact r.a6 i hi
theorem K_lean {c : Ch} {R : Nat → Int32} {n d p u k : Nat} {q : Nat} {y : Int32} (r : Rl c R n d p u k) (hq : q < p) : Rl (c.1, va_up c.2 4 (upd (c.2 4) q y)) (upd R (36 + 3 * q + 2) y) n d p u k := by
  have hn20 := r.ok.2.1.1.2
  have hd5 := r.ok.2.1.2.1.2
  have hp9 := r.ok.2.2.1.1.2
  have hk6 := r.ok.2.1.2.2.2.1
  have hu12 := r.ok.2.2.2.2
  have hc := r.ok
  refine ⟨⟨hc.1, ⟨hc.2.1.1, hc.2.1.2.1, ⟨hc.2.1.2.2.1, hc.2.1.2.2.2⟩⟩, ⟨hc.2.2.1.1, hc.2.2.1.2⟩, hc.2.2.2.1, hc.2.2.2.2⟩, ?_, ?_, ?_, ?_, ?_, ?_, ?_, ?_, ?_, ?_, ?_, ?_, ?_, ?_, ?_, ?_, ?_, ?_, ?_, ?_⟩
  · rw [upN (by omega)]; exact r.e0
  · rw [upN (by omega)]; exact r.e1
  · rw [upN (by omega)]; exact r.e2
  · rw [upN (by omega)]; exact r.e3
  · rw [upN (by omega)]; exact r.e24
  · rw [upN (by omega)]; exact r.e35
  · rw [upN (by omega)]; exact r.e63
  · rw [upN (by omega)]; exact r.e88
  · intro i hi
    rw [upN (by omega)]; exact r.th i hi
  · intro i hi
    rw [upN (by omega)]; exact r.dr i hi
  · intro i hi
    rw [upN (by omega)]; exact r.fl i hi
  · intro i hi
    rw [upN (by omega)]; exact r.p0 i hi
  · intro i hi
    rw [upN (by omega)]; exact r.p1 i hi
  · intro i hi
    by_cases h : i = q
    · subst h
      rw [upE]; exact (upE (c.2 4) i y).symm
    · rw [upN (by omega)]; exact (r.p2 i hi).trans (upN h).symm
  · intro i hi
    rw [upN (by omega)]; exact r.m0 i hi
  · intro i hi
    rw [upN (by omega)]; exact r.m1 i hi
  · intro i hi
    rw [upN (by omega)]; exact r.m2 i hi
  · intro i hi
    rw [upN (by omega)]; exact r.m3 i hi
  · intro i hi
    rw [upN (by omega)]; exact r.a5 i hi
  · intro i hi
    rw [upN (by omega)]; exact r.a6 i hi
theorem K_door {c : Ch} {R : Nat → Int32} {n d p u k : Nat} {x : Int32} (r : Rl c R n d p u k) (hd : d < 5) (hm : ∃ w, w < 2 ^ d ∧ c.1 5 = nI w) : Rl (upd c.1 4 (nI (d + 1)), va_up c.2 1 (upd (c.2 1) d x)) (drR R d x) n (d + 1) p u k := by
  have hn20 := r.ok.2.1.1.2
  have hd5 := r.ok.2.1.2.1.2
  have hp9 := r.ok.2.2.1.1.2
  have hk6 := r.ok.2.1.2.2.2.1
  have hu12 := r.ok.2.2.2.2
  have hc := r.ok
  unfold drR
  refine ⟨⟨hc.1, ⟨hc.2.1.1, ⟨rfl, by omega⟩, ⟨hc.2.1.2.2.1, hc.2.1.2.2.2⟩⟩, ⟨hc.2.2.1.1, hc.2.2.1.2⟩, hc.2.2.2.1, hc.2.2.2.2⟩, ?_, ?_, ?_, ?_, ?_, ?_, ?_, ?_, ?_, ?_, ?_, ?_, ?_, ?_, ?_, ?_, ?_, ?_, ?_, ?_⟩
  · rw [upN (by omega), upN (by omega), upN (by omega)]; exact r.e0
  · rw [upN (by omega), upN (by omega), upN (by omega)]; exact r.e1
  · rw [upN (by omega), upN (by omega), upN (by omega)]; exact r.e2
  · rw [upN (by omega), upN (by omega), upN (by omega)]; exact r.e3
  · rw [upE]; rfl
  · rw [upN (by omega), upN (by omega), upN (by omega)]; exact r.e35
  · rw [upN (by omega), upN (by omega), upN (by omega)]; exact r.e63
  · rw [upN (by omega), upN (by omega), upN (by omega)]; exact r.e88
  · intro i hi
    rw [upN (by omega), upN (by omega), upN (by omega)]; exact r.th i hi
  · intro i hi
    by_cases h : i = d
    · subst h
      rw [upN (by omega), upN (by omega), upE]; exact (upE (c.2 1) i x).symm
    · rw [upN (by omega), upN (by omega), upN (by omega)]; exact (r.dr i (by omega)).trans (upN h).symm
  · intro i hi
    by_cases h : i = d
    · subst h
      obtain ⟨w, hw, ew⟩ := hm
      rw [upN (by omega), upE]
      have : ¬ bitOn ((upd c.1 4 (nI (i + 1)), va_up c.2 1 (upd (c.2 1) i x)).1 5) i := by
        show ¬ bitOn (c.1 5) i
        rw [ew]
        exact bit_off i hd w hw
      rw [if_neg this]
    · rw [upN (by omega), upN (by omega), upN (by omega)]; exact r.fl i (by omega)
  · intro i hi
    rw [upN (by omega), upN (by omega), upN (by omega)]; exact r.p0 i hi
  · intro i hi
    rw [upN (by omega), upN (by omega), upN (by omega)]; exact r.p1 i hi
  · intro i hi
    rw [upN (by omega), upN (by omega), upN (by omega)]; exact r.p2 i hi
  · intro i hi
    rw [upN (by omega), upN (by omega), upN (by omega)]; exact r.m0 i hi
  · intro i hi
    rw [upN (by omega), upN (by omega), upN (by omega)]; exact r.m1 i hi
  · intro i hi
    rw [upN (by omega), upN (by omega), upN (by omega)]; exact r.m2 i hi
  · intro i hi
    rw [upN (by omega), upN (by omega), upN (by omega)]; exact r.m3 i hi
  · intro i hi
    rw [upN (by omega), upN (by omega), upN (by omega)]; exact r.a5 i hi
  · intro i hi
    rw [upN (by omega), upN (by omega), upN (by omega)]; exact r.a6 i hi
theorem K_open {c : Ch} {R : Nat → Int32} {n d p u k : Nat} {q : Nat} {y : Int32} (r : Rl c R n d p u k) (hq : q < d) (hm : ∃ w, w < 2 ^ d ∧ c.1 5 = nI w) (hy : y = 0 ∨ y = 1) (hne : ¬ (bitOn (c.1 5) q ↔ y = 1)) : Rl (upd c.1 5 (c.1 5 ^^^ ((1 : Int32) <<< (nI q &&& 31))), c.2) (upd R (25 + 2 * q + 1) y) n d p u k := by
  have hn20 := r.ok.2.1.1.2
  have hd5 := r.ok.2.1.2.1.2
  have hp9 := r.ok.2.2.1.1.2
  have hk6 := r.ok.2.1.2.2.2.1
  have hu12 := r.ok.2.2.2.2
  have hc := r.ok
  refine ⟨⟨hc.1, ⟨hc.2.1.1, hc.2.1.2.1, ⟨hc.2.1.2.2.1, hc.2.1.2.2.2⟩⟩, ⟨hc.2.2.1.1, hc.2.2.1.2⟩, hc.2.2.2.1, hc.2.2.2.2⟩, ?_, ?_, ?_, ?_, ?_, ?_, ?_, ?_, ?_, ?_, ?_, ?_, ?_, ?_, ?_, ?_, ?_, ?_, ?_, ?_⟩
  · rw [upN (by omega)]; exact r.e0
  · rw [upN (by omega)]; exact r.e1
  · rw [upN (by omega)]; exact r.e2
  · rw [upN (by omega)]; exact r.e3
  · rw [upN (by omega)]; exact r.e24
  · rw [upN (by omega)]; exact r.e35
  · rw [upN (by omega)]; exact r.e63
  · rw [upN (by omega)]; exact r.e88
  · intro i hi
    rw [upN (by omega)]; exact r.th i hi
  · intro i hi
    rw [upN (by omega)]; exact r.dr i hi
  · intro i hi
    obtain ⟨w, hw, ew⟩ := hm
    have h5 := pow5 hd5
    have bx := bit_x w (by omega) q (by omega) i (by omega)
    show _ = if bitOn (c.1 5 ^^^ ((1 : Int32) <<< (nI q &&& 31))) i then 1 else 0
    rw [ew]
    by_cases h : i = q
    · subst h
      rw [upE]
      rw [if_pos rfl] at bx
      rw [ew] at hne
      rcases hy with e | e
      · subst e
        have : bitOn (nI w) i := Classical.byContradiction (fun z => hne ⟨fun a => absurd a z, fun a => absurd a (by decide)⟩)
        rw [if_neg (fun a => bx.mp a this)]
      · subst e
        have : ¬ bitOn (nI w) i := fun z => hne ⟨fun _ => rfl, fun _ => z⟩
        rw [if_pos (bx.mpr this)]
    · rw [upN (by omega), r.fl i hi, ew]
      rw [if_neg h] at bx
      by_cases z : bitOn (nI w) i
      · rw [if_pos z, if_pos (bx.mpr z)]
      · rw [if_neg z, if_neg (fun a => z (bx.mp a))]
  · intro i hi
    rw [upN (by omega)]; exact r.p0 i hi
  · intro i hi
    rw [upN (by omega)]; exact r.p1 i hi
  · intro i hi
    rw [upN (by omega)]; exact r.p2 i hi
  · intro i hi
    rw [upN (by omega)]; exact r.m0 i hi
  · intro i hi
    rw [upN (by omega)]; exact r.m1 i hi
  · intro i hi
    rw [upN (by omega)]; exact r.m2 i hi
  · intro i hi
    rw [upN (by omega)]; exact r.m3 i hi
  · intro i hi
    rw [upN (by omega)]; exact r.a5 i hi
  · intro i hi
    rw [upN (by omega)]; exact r.a6 i hi
theorem K_pin {c : Ch} {R : Nat → Int32} {n d p u k : Nat} {q : Nat} {x y : Int32} (r : Rl c R n d p u k) (hp : p < 9) (hq : q < n) (hy : y = nI q) : Rl (upd c.1 6 (nI (p + 1)), pinA c.2 p x y (-1)) (pnR R p x y) n d (p + 1) u k := by
  have hn20 := r.ok.2.1.1.2
  have hd5 := r.ok.2.1.2.1.2
  have hp9 := r.ok.2.2.1.1.2
  have hk6 := r.ok.2.1.2.2.2.1
  have hu12 := r.ok.2.2.2.2
  have hc := r.ok
  unfold pnR
  unfold pinA
  refine ⟨⟨hc.1, ⟨hc.2.1.1, hc.2.1.2.1, ⟨hc.2.1.2.2.1, hc.2.1.2.2.2⟩⟩, ⟨⟨rfl, by omega⟩, fun i hi => by
    by_cases h : i = p
    · subst h
      exact ⟨q, hq, (upE (c.2 3) i y).trans hy⟩
    · obtain ⟨z, h1, h2⟩ := hc.2.2.1.2 i (by omega)
      exact ⟨z, h1, (upN h).trans h2⟩⟩, hc.2.2.2.1, hc.2.2.2.2⟩, ?_, ?_, ?_, ?_, ?_, ?_, ?_, ?_, ?_, ?_, ?_, ?_, ?_, ?_, ?_, ?_, ?_, ?_, ?_, ?_⟩
  · rw [upN (by omega), upN (by omega), upN (by omega), upN (by omega)]; exact r.e0
  · rw [upN (by omega), upN (by omega), upN (by omega), upN (by omega)]; exact r.e1
  · rw [upN (by omega), upN (by omega), upN (by omega), upN (by omega)]; exact r.e2
  · rw [upN (by omega), upN (by omega), upN (by omega), upN (by omega)]; exact r.e3
  · rw [upN (by omega), upN (by omega), upN (by omega), upN (by omega)]; exact r.e24
  · rw [upE]; rfl
  · rw [upN (by omega), upN (by omega), upN (by omega), upN (by omega)]; exact r.e63
  · rw [upN (by omega), upN (by omega), upN (by omega), upN (by omega)]; exact r.e88
  · intro i hi
    rw [upN (by omega), upN (by omega), upN (by omega), upN (by omega)]; exact r.th i hi
  · intro i hi
    rw [upN (by omega), upN (by omega), upN (by omega), upN (by omega)]; exact r.dr i hi
  · intro i hi
    rw [upN (by omega), upN (by omega), upN (by omega), upN (by omega)]; exact r.fl i hi
  · intro i hi
    by_cases h : i = p
    · subst h
      rw [upN (by omega), upN (by omega), upN (by omega), upE]; exact (upE (c.2 2) i x).symm
    · rw [upN (by omega), upN (by omega), upN (by omega), upN (by omega)]; exact (r.p0 i (by omega)).trans (upN h).symm
  · intro i hi
    by_cases h : i = p
    · subst h
      rw [upN (by omega), upN (by omega), upE]; exact (upE (c.2 3) i y).symm
    · rw [upN (by omega), upN (by omega), upN (by omega), upN (by omega)]; exact (r.p1 i (by omega)).trans (upN h).symm
  · intro i hi
    by_cases h : i = p
    · subst h
      rw [upN (by omega), upE]; exact (upE (c.2 4) i (-1)).symm
    · rw [upN (by omega), upN (by omega), upN (by omega), upN (by omega)]; exact (r.p2 i (by omega)).trans (upN h).symm
  · intro i hi
    rw [upN (by omega), upN (by omega), upN (by omega), upN (by omega)]; exact r.m0 i hi
  · intro i hi
    rw [upN (by omega), upN (by omega), upN (by omega), upN (by omega)]; exact r.m1 i hi
  · intro i hi
    rw [upN (by omega), upN (by omega), upN (by omega), upN (by omega)]; exact r.m2 i hi
  · intro i hi
    rw [upN (by omega), upN (by omega), upN (by omega), upN (by omega)]; exact r.m3 i hi
  · intro i hi
    rw [upN (by omega), upN (by omega), upN (by omega), upN (by omega)]; exact r.a5 i hi
  · intro i hi
    rw [upN (by omega), upN (by omega), upN (by omega), upN (by omega)]; exact r.a6 i hi
theorem K_member {c : Ch} {R : Nat → Int32} {n d p u k : Nat} {q : Nat} {x y z t : Int32} (r : Rl c R n d p u k) (hk : k < 6) (hq : q < 6) (hx : x = nI q) : Rl (upd c.1 8 (nI (k + 1)), stA c.2 k x y z t) (mbR R k x y z t) n d p u (k + 1) := by
  have hn20 := r.ok.2.1.1.2
  have hd5 := r.ok.2.1.2.1.2
  have hp9 := r.ok.2.2.1.1.2
  have hk6 := r.ok.2.1.2.2.2.1
  have hu12 := r.ok.2.2.2.2
  have hc := r.ok
  unfold mbR
  unfold stA
  refine ⟨⟨hc.1, ⟨hc.2.1.1, hc.2.1.2.1, ⟨rfl, by omega, fun i hi => by
    by_cases h : i = k
    · subst h
      exact ⟨q, hq, (upE (c.2 7) i x).trans hx⟩
    · obtain ⟨z, h1, h2⟩ := hc.2.1.2.2.2.2 i (by omega)
      exact ⟨z, h1, (upN h).trans h2⟩⟩⟩, ⟨hc.2.2.1.1, hc.2.2.1.2⟩, hc.2.2.2.1, hc.2.2.2.2⟩, ?_, ?_, ?_, ?_, ?_, ?_, ?_, ?_, ?_, ?_, ?_, ?_, ?_, ?_, ?_, ?_, ?_, ?_, ?_, ?_⟩
  · rw [upN (by omega), upN (by omega), upN (by omega), upN (by omega), upN (by omega)]; exact r.e0
  · rw [upN (by omega), upN (by omega), upN (by omega), upN (by omega), upN (by omega)]; exact r.e1
  · rw [upN (by omega), upN (by omega), upN (by omega), upN (by omega), upN (by omega)]; exact r.e2
  · rw [upN (by omega), upN (by omega), upN (by omega), upN (by omega), upN (by omega)]; exact r.e3
  · rw [upN (by omega), upN (by omega), upN (by omega), upN (by omega), upN (by omega)]; exact r.e24
  · rw [upN (by omega), upN (by omega), upN (by omega), upN (by omega), upN (by omega)]; exact r.e35
  · rw [upE]; rfl
  · rw [upN (by omega), upN (by omega), upN (by omega), upN (by omega), upN (by omega)]; exact r.e88
  · intro i hi
    rw [upN (by omega), upN (by omega), upN (by omega), upN (by omega), upN (by omega)]; exact r.th i hi
  · intro i hi
    rw [upN (by omega), upN (by omega), upN (by omega), upN (by omega), upN (by omega)]; exact r.dr i hi
  · intro i hi
    rw [upN (by omega), upN (by omega), upN (by omega), upN (by omega), upN (by omega)]; exact r.fl i hi
  · intro i hi
    rw [upN (by omega), upN (by omega), upN (by omega), upN (by omega), upN (by omega)]; exact r.p0 i hi
  · intro i hi
    rw [upN (by omega), upN (by omega), upN (by omega), upN (by omega), upN (by omega)]; exact r.p1 i hi
  · intro i hi
    rw [upN (by omega), upN (by omega), upN (by omega), upN (by omega), upN (by omega)]; exact r.p2 i hi
  · intro i hi
    by_cases h : i = k
    · subst h
      rw [upN (by omega), upN (by omega), upN (by omega), upN (by omega), upE]; exact (upE (c.2 7) i x).symm
    · rw [upN (by omega), upN (by omega), upN (by omega), upN (by omega), upN (by omega)]; exact (r.m0 i (by omega)).trans (upN h).symm
  · intro i hi
    by_cases h : i = k
    · subst h
      rw [upN (by omega), upN (by omega), upN (by omega), upE]; exact (upE (c.2 8) i y).symm
    · rw [upN (by omega), upN (by omega), upN (by omega), upN (by omega), upN (by omega)]; exact (r.m1 i (by omega)).trans (upN h).symm
  · intro i hi
    by_cases h : i = k
    · subst h
      rw [upN (by omega), upN (by omega), upE]; exact (upE (c.2 9) i z).symm
    · rw [upN (by omega), upN (by omega), upN (by omega), upN (by omega), upN (by omega)]; exact (r.m2 i (by omega)).trans (upN h).symm
  · intro i hi
    by_cases h : i = k
    · subst h
      rw [upN (by omega), upE]; exact (upE (c.2 10) i t).symm
    · rw [upN (by omega), upN (by omega), upN (by omega), upN (by omega), upN (by omega)]; exact (r.m3 i (by omega)).trans (upN h).symm
  · intro i hi
    rw [upN (by omega), upN (by omega), upN (by omega), upN (by omega), upN (by omega)]; exact r.a5 i hi
  · intro i hi
    rw [upN (by omega), upN (by omega), upN (by omega), upN (by omega), upN (by omega)]; exact r.a6 i hi
theorem K_dropP {c : Ch} {R : Nat → Int32} {n d v u k : Nat} (r : Rl c R n d (v + 1) u k) : Rl (upd c.1 6 (nI v), c.2) (upd R 35 (nI v)) n d v u k := by
  have hn20 := r.ok.2.1.1.2
  have hd5 := r.ok.2.1.2.1.2
  have hp9 := r.ok.2.2.1.1.2
  have hk6 := r.ok.2.1.2.2.2.1
  have hu12 := r.ok.2.2.2.2
  have hc := r.ok
  refine ⟨⟨hc.1, ⟨hc.2.1.1, hc.2.1.2.1, ⟨hc.2.1.2.2.1, hc.2.1.2.2.2⟩⟩, ⟨⟨rfl, by omega⟩, fun i hi => hc.2.2.1.2 i (by omega)⟩, hc.2.2.2.1, hc.2.2.2.2⟩, ?_, ?_, ?_, ?_, ?_, ?_, ?_, ?_, ?_, ?_, ?_, ?_, ?_, ?_, ?_, ?_, ?_, ?_, ?_, ?_⟩
  · rw [upN (by omega)]; exact r.e0
  · rw [upN (by omega)]; exact r.e1
  · rw [upN (by omega)]; exact r.e2
  · rw [upN (by omega)]; exact r.e3
  · rw [upN (by omega)]; exact r.e24
  · rw [upE]; rfl
  · rw [upN (by omega)]; exact r.e63
  · rw [upN (by omega)]; exact r.e88
  · intro i hi
    rw [upN (by omega)]; exact r.th i hi
  · intro i hi
    rw [upN (by omega)]; exact r.dr i hi
  · intro i hi
    rw [upN (by omega)]; exact r.fl i hi
  · intro i hi
    rw [upN (by omega)]; exact r.p0 i (by omega)
  · intro i hi
    rw [upN (by omega)]; exact r.p1 i (by omega)
  · intro i hi
    rw [upN (by omega)]; exact r.p2 i (by omega)
  · intro i hi
    rw [upN (by omega)]; exact r.m0 i hi
  · intro i hi
    rw [upN (by omega)]; exact r.m1 i hi
  · intro i hi
    rw [upN (by omega)]; exact r.m2 i hi
  · intro i hi
    rw [upN (by omega)]; exact r.m3 i hi
  · intro i hi
    rw [upN (by omega)]; exact r.a5 i hi
  · intro i hi
    rw [upN (by omega)]; exact r.a6 i hi
theorem K_dropM {c : Ch} {R : Nat → Int32} {n d p u v : Nat} (r : Rl c R n d p u (v + 1)) : Rl (upd c.1 8 (nI v), c.2) (upd R 63 (nI v)) n d p u v := by
  have hn20 := r.ok.2.1.1.2
  have hd5 := r.ok.2.1.2.1.2
  have hp9 := r.ok.2.2.1.1.2
  have hk6 := r.ok.2.1.2.2.2.1
  have hu12 := r.ok.2.2.2.2
  have hc := r.ok
  refine ⟨⟨hc.1, ⟨hc.2.1.1, hc.2.1.2.1, ⟨rfl, by omega, fun i hi => hc.2.1.2.2.2.2 i (by omega)⟩⟩, ⟨hc.2.2.1.1, hc.2.2.1.2⟩, hc.2.2.2.1, hc.2.2.2.2⟩, ?_, ?_, ?_, ?_, ?_, ?_, ?_, ?_, ?_, ?_, ?_, ?_, ?_, ?_, ?_, ?_, ?_, ?_, ?_, ?_⟩
  · rw [upN (by omega)]; exact r.e0
  · rw [upN (by omega)]; exact r.e1
  · rw [upN (by omega)]; exact r.e2
  · rw [upN (by omega)]; exact r.e3
  · rw [upN (by omega)]; exact r.e24
  · rw [upN (by omega)]; exact r.e35
  · rw [upE]; rfl
  · rw [upN (by omega)]; exact r.e88
  · intro i hi
    rw [upN (by omega)]; exact r.th i hi
  · intro i hi
    rw [upN (by omega)]; exact r.dr i hi
  · intro i hi
    rw [upN (by omega)]; exact r.fl i hi
  · intro i hi
    rw [upN (by omega)]; exact r.p0 i hi
  · intro i hi
    rw [upN (by omega)]; exact r.p1 i hi
  · intro i hi
    rw [upN (by omega)]; exact r.p2 i hi
  · intro i hi
    rw [upN (by omega)]; exact r.m0 i (by omega)
  · intro i hi
    rw [upN (by omega)]; exact r.m1 i (by omega)
  · intro i hi
    rw [upN (by omega)]; exact r.m2 i (by omega)
  · intro i hi
    rw [upN (by omega)]; exact r.m3 i (by omega)
  · intro i hi
    rw [upN (by omega)]; exact r.a5 i hi
  · intro i hi
    rw [upN (by omega)]; exact r.a6 i hi
theorem K_back {c : Ch} {R : Nat → Int32} {n d p v k : Nat} (r : Rl c R n d p (v + 1) k) : Rl (cBack c v) (unR R v) n d p v k := by
  have hn20 := r.ok.2.1.1.2
  have hd5 := r.ok.2.1.2.1.2
  have hp9 := r.ok.2.2.1.1.2
  have hk6 := r.ok.2.1.2.2.2.1
  have hu12 := r.ok.2.2.2.2
  have hc := r.ok
  unfold unR
  unfold cBack
  refine ⟨⟨hc.1, ⟨hc.2.1.1, hc.2.1.2.1, ⟨hc.2.1.2.2.1, hc.2.1.2.2.2⟩⟩, ⟨hc.2.2.1.1, hc.2.2.1.2⟩, rfl, by omega⟩, ?_, ?_, ?_, ?_, ?_, ?_, ?_, ?_, ?_, ?_, ?_, ?_, ?_, ?_, ?_, ?_, ?_, ?_, ?_, ?_⟩
  · rw [upN (by omega), upN (by omega), upN (by omega), upN (by omega)]; exact r.e0
  · rw [upN (by omega), upN (by omega), upE]; exact r.a5 v (by omega)
  · rw [upE, r.e2]; rfl
  · rw [upN (by omega), upE]; exact r.a6 v (by omega)
  · rw [upN (by omega), upN (by omega), upN (by omega), upN (by omega)]; exact r.e24
  · rw [upN (by omega), upN (by omega), upN (by omega), upN (by omega)]; exact r.e35
  · rw [upN (by omega), upN (by omega), upN (by omega), upN (by omega)]; exact r.e63
  · rw [upN (by omega), upN (by omega), upN (by omega), upE]; rfl
  · intro i hi
    rw [upN (by omega), upN (by omega), upN (by omega), upN (by omega)]; exact r.th i hi
  · intro i hi
    rw [upN (by omega), upN (by omega), upN (by omega), upN (by omega)]; exact r.dr i hi
  · intro i hi
    rw [upN (by omega), upN (by omega), upN (by omega), upN (by omega)]; exact r.fl i hi
  · intro i hi
    rw [upN (by omega), upN (by omega), upN (by omega), upN (by omega)]; exact r.p0 i hi
  · intro i hi
    rw [upN (by omega), upN (by omega), upN (by omega), upN (by omega)]; exact r.p1 i hi
  · intro i hi
    rw [upN (by omega), upN (by omega), upN (by omega), upN (by omega)]; exact r.p2 i hi
  · intro i hi
    rw [upN (by omega), upN (by omega), upN (by omega), upN (by omega)]; exact r.m0 i hi
  · intro i hi
    rw [upN (by omega), upN (by omega), upN (by omega), upN (by omega)]; exact r.m1 i hi
  · intro i hi
    rw [upN (by omega), upN (by omega), upN (by omega), upN (by omega)]; exact r.m2 i hi
  · intro i hi
    rw [upN (by omega), upN (by omega), upN (by omega), upN (by omega)]; exact r.m3 i hi
  · intro i hi
    rw [upN (by omega), upN (by omega), upN (by omega), upN (by omega)]; exact r.a5 i (by omega)
  · intro i hi
    rw [upN (by omega), upN (by omega), upN (by omega), upN (by omega)]; exact r.a6 i (by omega)
