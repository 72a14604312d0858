theorem K_candle {c : Ch} {R : Nat → Int32} {m : Nat} (h1 : 1 ≤ m) (h2 : m ≤ 20) : Rl (lgt c (nI m)) (bgR R m) m 0 0 0 0 := by
  have z : ∀ j, 0 < j → j < 113 → (j < 4 ∨ 4 + m ≤ j) → bgR R m j = 0 := fun j a b e => by
    unfold bgR
    rw [upN (by omega)]
    unfold bgL
    rw [if_pos b, if_neg (by omega)]
  refine ⟨⟨h1, ⟨⟨rfl, h2⟩, ⟨rfl, by omega⟩, ⟨rfl, by omega, fun i hi => absurd hi (by omega)⟩⟩, ⟨⟨rfl, by omega⟩, fun i hi => absurd hi (by omega)⟩, rfl, by omega⟩, upE _ _ _, z 1 (by omega) (by omega) (by omega), z 2 (by omega) (by omega) (by omega), z 3 (by omega) (by omega) (by omega), z 24 (by omega) (by omega) (by omega), z 35 (by omega) (by omega) (by omega), z 63 (by omega) (by omega) (by omega), z 88 (by omega) (by omega) (by omega), ?_, ?_, ?_, ?_, ?_, ?_, ?_, ?_, ?_, ?_, ?_, ?_⟩
  · intro i hi
    unfold bgR
    rw [upN (by omega)]
    unfold bgL
    rw [if_pos (by omega), if_pos (by omega)]
    show _ = lgA (c.2 0) 20 i
    unfold lgA
    rw [if_pos (by omega)]
  all_goals exact fun i hi => absurd hi (by omega)
theorem In_candle {c : Ch} {m B : Nat} (h2 : m ≤ 20) : In (lgt c (nI m)) m 0 0 B := by
  refine ⟨⟨fun i hi => ⟨4, by omega, ?_⟩, fun i hi => absurd hi (by omega)⟩, ⟨0, by decide, rfl⟩, ⟨0, by omega, rfl⟩, fun _ => 0, fun _ => 0, ⟨⟨fun i hi => absurd hi (by omega), rfl, rfl⟩, fun _ _ => Nat.le_refl _, fun i hi => absurd hi (by omega), Nat.zero_le _⟩⟩
  show lgA (c.2 0) 20 i = _
  unfold lgA
  rw [if_pos (by omega)]
  rfl
theorem wN_congr {f g : Nat → Int32} : ∀ q, (∀ i, i < q → f i = g i) → wN f q = wN g q
  | 0, _ => rfl
  | q + 1, h => by
    show wN f q + tn (f q) = wN g q + tn (g q)
    rw [wN_congr q (fun i hi => h i (by omega)), h q (by omega)]
theorem wN_mono (f : Nat → Int32) : ∀ e q, wN f q ≤ wN f (q + e)
  | 0, _ => Nat.le_refl _
  | e + 1, q => Nat.le_trans (wN_mono f e q) (Nat.le_add_right _ _)
theorem In_thick {c : Ch} {n d u B q : Nat} {y : Int32} (iv : In c n d u B) (hn : n ≤ 20) (hq : q < n) (hy : 1 ≤ y ∧ y ≤ 9) (hno : ¬ l_sum (c.2 0) q < c.1 1) : In (c.1, va_up c.2 0 (upd (c.2 0) q y)) n d u B := by
  have hw := (iv.rg.th hn q (Nat.le_of_lt hq))
  have hwn := (iv.rg.th hn n (Nat.le_refl _))
  obtain ⟨⟨h1, h2⟩, h3, h4, f, g, ⟨h6, h7, h8⟩, h9, h10, h11⟩ := iv
  refine ⟨⟨fun i hi => ?_, h2⟩, h3, h4, f, g, ⟨⟨h6, h7, h8⟩, h9, h10, ?_⟩⟩
  · show ∃ m, (1 ≤ m ∧ m ≤ 9) ∧ upd (c.2 0) q y i = nI m
    by_cases h : i = q
    · subst h
      rw [upE]
      obtain ⟨m, hm, e⟩ := nI_of2 (M := 9) (n := 9) (by decide) (i32_len (Int32.le_trans (by decide : (0 : Int32) ≤ 1) hy.1)) hy.2
      refine ⟨m, ⟨?_, hm⟩, e⟩
      exact (nI_leI (a := 1) (by omega) (by omega)).mp (by rw [← e]; exact hy.1)
    · rw [upN h]
      exact h1 i hi
  · show f u ≤ wN (upd (c.2 0) q y) n
    rw [hw.1, h7] at hno
    have a1 : f u ≤ wN (c.2 0) q := by
      rcases Nat.lt_or_ge (wN (c.2 0) q) (f u) with a | a
      · exact absurd (nI_lt a (by omega)) hno
      · exact a
    have a2 : wN (c.2 0) q = wN (upd (c.2 0) q y) q := wN_congr q (fun i hi => (upN (by omega)).symm)
    have a3 := wN_mono (upd (c.2 0) q y) (n - q) q
    rw [show q + (n - q) = n by omega] at a3
    omega
theorem In_door {c : Ch} {n d u B : Nat} {x : Int32} (iv : In c n d u B) (hx : 0 ≤ x ∧ x ≤ 3) : In (upd c.1 4 (nI (d + 1)), va_up c.2 1 (upd (c.2 1) d x)) n (d + 1) u B := by
  obtain ⟨⟨h1, h2⟩, ⟨w, hw, ew⟩, h4, f, g, hp⟩ := iv
  refine ⟨⟨h1, fun i hi => ?_⟩, ⟨w, by rw [Nat.pow_succ]; omega, ew⟩, h4, f, g, hp⟩
  show ∃ m, m ≤ 3 ∧ upd (c.2 1) d x i = nI m
  by_cases h : i = d
  · subst h
    rw [upE]
    exact nI_of2 (M := 3) (n := 3) (by decide) (i32_len hx.1) hx.2
  · rw [upN h]
    exact h2 i (by omega)
theorem In_open {c : Ch} {n d u B q : Nat} (iv : In c n d u B) (hd : d ≤ 5) (hq : q < d) : In (upd c.1 5 (c.1 5 ^^^ ((1 : Int32) <<< (nI q &&& 31))), c.2) n d u B := by
  obtain ⟨h12, ⟨w, hw, ew⟩, h4, f, g, hp⟩ := iv
  have mx := msk_x d (by omega) w hw q hq
  refine ⟨h12, ⟨w ^^^ 2 ^ q, mx.2, ?_⟩, h4, f, g, hp⟩
  show c.1 5 ^^^ ((1 : Int32) <<< (nI q &&& 31)) = _
  rw [ew]
  exact mx.1
theorem In_pin {c : Ch} {n d u B v : Nat} {x y z : Int32} (iv : In c n d u B) : In (upd c.1 6 (nI (v + 1)), pinA c.2 v x y z) n d u B := iv
theorem In_member {c : Ch} {n d u B v : Nat} {x y z t : Int32} (iv : In c n d u B) : In (upd c.1 8 (nI (v + 1)), stA c.2 v x y z t) n d u B := iv
theorem In_dropP {c : Ch} {n d u B v : Nat} (iv : In c n d u B) : In (upd c.1 6 (nI v), c.2) n d u B := iv
theorem In_dropM {c : Ch} {n d u B v : Nat} (iv : In c n d u B) : In (upd c.1 8 (nI v), c.2) n d u B := iv
theorem In_lean {c : Ch} {n d u B q : Nat} {y : Int32} (iv : In c n d u B) : In (c.1, va_up c.2 4 (upd (c.2 4) q y)) n d u B := iv
