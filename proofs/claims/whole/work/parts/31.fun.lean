/-! what the calls do, as functions -/
def COk (c : Ch) (n d p u k : Nat) : Prop := 1 ≤ n ∧ CNk c n d k ∧ PinOk c n p ∧ (c.1 7 = nI u ∧ u ≤ 12)
abbrev tn (x : Int32) : Nat := x.toNatClampNeg
theorem tn_nI {n : Nat} (h : n < 2147483648) : tn (nI n) = n := nI_clamp h
def fCandle (c : Ch) (x : Int32) : Int32 × Ch := if 1 ≤ x ∧ x ≤ 20 then (c.1 0, lgt c x) else (-2, c)
def fThick (c : Ch) (x y : Int32) : Int32 × Ch := if (0 ≤ x ∧ x ≤ c.1 0 - 1) ∧ (1 ≤ y ∧ y ≤ 9) then (if l_sum (c.2 0) (tn x) < c.1 1 then (-3, c) else (c.2 0 (tn x), (c.1, va_up c.2 0 (upd (c.2 0) (tn x) y)))) else (-2, c)
def fDoor (c : Ch) (x : Int32) : Int32 × Ch := if 0 ≤ x ∧ x ≤ 3 then (if c.1 4 = 5 then (-4, c) else (c.1 4, (upd c.1 4 (c.1 4 + 1), va_up c.2 1 (upd (c.2 1) (tn (c.1 4)) x)))) else (-2, c)
def fOpen (c : Ch) (x y : Int32) : Int32 × Ch := if 0 ≤ x ∧ x ≤ c.1 4 - 1 then (if (bitOn (c.1 5) (tn x) ↔ y = 1) then (-3, c) else (1, (upd c.1 5 (c.1 5 ^^^ (1 <<< (x &&& 31))), c.2))) else (-2, c)
def fPin (c : Ch) (x y : Int32) : Int32 × Ch := if (0 ≤ x ∧ x ≤ 2) ∧ (0 ≤ y ∧ y ≤ c.1 0 - 1) then (if past c (tn y) then (-3, c) else if c.1 6 = 9 then (-4, c) else (c.1 6, (upd c.1 6 (c.1 6 + 1), pinA c.2 (tn (c.1 6)) x y (-1)))) else (-2, c)
theorem sOk_dec (x p f t : Int32) : sOk x p f t ∨ ¬ sOk x p f t := Classical.em _
abbrev sOk2 (x p f t : Int32) : Prop := (0 ≤ x ∧ x ≤ 5) ∧ (0 ≤ p ∧ p ≤ 2) ∧ (0 ≤ f ∧ f ≤ 99) ∧ (0 ≤ t ∧ t ≤ 99)
def fMember (c : Ch) (x p f t : Int32) : Int32 × Ch := if sOk2 x p f t then (if c.1 8 = 6 then (-4, c) else (c.1 8, (upd c.1 8 (c.1 8 + 1), stA c.2 (tn (c.1 8)) x p f t))) else (-2, c)
def fDropP (c : Ch) : Int32 × Ch := if c.1 6 = 0 then (-3, c) else (c.1 6 - 1, (upd c.1 6 (c.1 6 - 1), c.2))
def fDropM (c : Ch) : Int32 × Ch := if c.1 8 = 0 then (-3, c) else (c.1 8 - 1, (upd c.1 8 (c.1 8 - 1), c.2))
def fBack (c : Ch) : Int32 × Ch := if c.1 7 = 0 then (-3, c) else (1, cBack c (tn (c.1 7 - 1)))
theorem i32_ne9 {p N : Nat} (hp : p < 2147483648) (hN : N < 2147483648) (h : p ≠ N) : ¬ nI p = nI N := fun e => h ((nI_eq hp hN).mp e)
section Fun
variable {c : Ch} {n d p u k : Nat} {Q : Int32 → Wd → Prop}
theorem F_candle {x : Int32} (h : Q (fCandle c x).1 (chW (fCandle c x).2)) : CallI kX1_lightAnew [.ref 16, .int x] (chW c) Q := by
  refine S_lightAnew (fun a => ?_) (fun a b => ?_)
  · unfold fCandle at h; rw [if_neg a] at h; exact h
  · unfold fCandle at h; rw [if_pos ⟨a, b⟩] at h; exact h
theorem F_thick {x y : Int32} (hc : COk c n d p u k) (h : Q (fThick c x y).1 (chW (fThick c x y).2)) : CallI kX1_makeThick [.ref 16, .int x, .int y] (chW c) Q := by
  have hn := hc.2.1.1.1
  have hn2 := hc.2.1.1.2
  unfold fThick at h
  rw [hn] at h
  refine S_makeThick hn hn2 (fun a => ?_) (fun s hs e a b g => ?_) (fun s hs e a b g => ?_)
  · rw [if_neg a] at h; exact h
  · subst e
    rw [if_pos ⟨ix_in (by omega) hs, a, b⟩, tn_nI (by omega), if_pos g] at h
    exact h
  · subst e
    rw [if_pos ⟨ix_in (by omega) hs, a, b⟩, tn_nI (by omega), if_neg (i32_len g)] at h
    exact h
theorem F_door {x : Int32} (hc : COk c n d p u k) (h : Q (fDoor c x).1 (chW (fDoor c x).2)) : CallI kX1_addDoor [.ref 16, .int x] (chW c) Q := by
  have hd := hc.2.1.2.1.1
  have hd2 := hc.2.1.2.1.2
  unfold fDoor at h
  rw [hd] at h
  refine S_addDoor hd hd2 (fun a => ?_) (fun a b e => ?_) (fun a b e => ?_)
  · rw [if_neg a] at h; exact h
  · subst e
    rw [if_pos ⟨a, b⟩, if_pos (show nI 5 = 5 from rfl)] at h
    exact h
  · rw [if_pos ⟨a, b⟩, if_neg (show ¬ nI d = 5 from i32_ne9 (N := 5) (by omega) (by omega) (by omega)), tn_nI (by omega), nI_1] at h
    exact h
theorem F_open {x y : Int32} (hc : COk c n d p u k) (hy : y = 0 ∨ y = 1) (h : Q (fOpen c x y).1 (chW (fOpen c x y).2)) : CallI kX1_turnDoor [.ref 16, .int x, .int y] (chW c) Q := by
  have hd := hc.2.1.2.1.1
  have hd2 := hc.2.1.2.1.2
  unfold fOpen at h
  rw [hd] at h
  refine S_turnDoor hd hd2 hy (fun a => ?_) (fun i hi e g => ?_) (fun i hi e g => ?_)
  · rw [if_neg a] at h; exact h
  · subst e
    rw [if_pos (ix_in (by omega) hi), tn_nI (by omega), if_pos g] at h
    exact h
  · subst e
    rw [if_pos (ix_in (by omega) hi), tn_nI (by omega), if_neg g] at h
    exact h
theorem F_pin {x y : Int32} (hc : COk c n d p u k) (h : Q (fPin c x y).1 (chW (fPin c x y).2)) : CallI kX1_addPin [.ref 16, .int x, .int y] (chW c) Q := by
  have hn := hc.2.1.1.1
  have hn2 := hc.2.1.1.2
  have hp := hc.2.2.1.1.1
  have hp2 := hc.2.2.1.1.2
  unfold fPin at h
  rw [hn, hp] at h
  refine S_addPin hn hn2 hp hp2 (fun a => ?_) (fun s hs e a b g => ?_) (fun s hs e a b g q => ?_) (fun s hs e a b g q => ?_)
  · rw [if_neg a] at h; exact h
  · subst e
    rw [if_pos ⟨⟨a, b⟩, ix_in (by omega) hs⟩, tn_nI (by omega), if_pos g] at h
    exact h
  · subst e
    subst q
    rw [if_pos ⟨⟨a, b⟩, ix_in (by omega) hs⟩, tn_nI (by omega), if_neg g, if_pos (show nI 9 = 9 from rfl)] at h
    exact h
  · subst e
    rw [if_pos ⟨⟨a, b⟩, ix_in (by omega) hs⟩, tn_nI (n := s) (by omega), if_neg g, if_neg (show ¬ nI p = 9 from i32_ne9 (N := 9) (by omega) (by omega) (by omega)), tn_nI (by omega), nI_1] at h
    exact h
theorem F_dropP (h : Q (fDropP c).1 (chW (fDropP c).2)) : CallI kX1_dropPin [.ref 16] (chW c) Q := by
  unfold fDropP at h
  refine S_dropPin (fun a => ?_) (fun a => ?_)
  · rw [if_pos a] at h; exact h
  · rw [if_neg a] at h; exact h
theorem F_back (hc : COk c n d p u k) (h : Q (fBack c).1 (chW (fBack c).2)) : CallI kX1_takeMinuteBack [.ref 16] (chW c) Q := by
  have hu := hc.2.2.2.1
  have hu2 := hc.2.2.2.2
  unfold fBack at h
  rw [hu] at h
  refine S_takeMinuteBack hu hu2 (fun a => ?_) (fun v e => ?_)
  · subst a
    rw [if_pos (show nI 0 = 0 from rfl)] at h
    exact h
  · subst e
    rw [if_neg (show ¬ nI (v + 1) = 0 from i32_ne9 (N := 0) (by omega) (by omega) (by omega)), nI_pred, tn_nI (by omega)] at h
    exact h
/-! in the chamber's world, the members' calls -/
theorem B_member {x pa f t : Int32} (hc : COk c n d p u k) (h : Q (fMember c x pa f t).1 (bnW ((fMember c x pa f t).2.1 8) (fMember c x pa f t).2.2)) : CallI kX0_seat [.ref 16, .int x, .int pa, .int f, .int t] (bnW (c.1 8) c.2) Q := by
  have hk := hc.2.1.2.2.1
  have hk2 := hc.2.1.2.2.2.1
  unfold fMember at h
  refine S_seat hk2 hk (fun a => ?_) (fun a e => ?_) (fun a e => ?_)
  · rw [if_neg (show ¬ sOk2 x pa f t from a)] at h; exact h
  · subst e
    rw [if_pos (show sOk2 x pa f t from a), if_pos (show c.1 8 = 6 from hk)] at h
    exact h
  · rw [if_pos (show sOk2 x pa f t from a), if_neg (show ¬ c.1 8 = 6 by rw [hk]; exact i32_ne9 (N := 6) (by omega) (by omega) (by omega)), hk, tn_nI (by omega), nI_1] at h
    exact h
theorem B_dropM (h : Q (fDropM c).1 (bnW ((fDropM c).2.1 8) (fDropM c).2.2)) : CallI kX0_dropMember [.ref 16] (bnW (c.1 8) c.2) Q := by
  unfold fDropM at h
  refine S_dropMember (fun a => ?_) (fun a => ?_)
  · rw [if_pos a] at h; exact h
  · rw [if_neg a] at h; exact h
/-! the calls keep what must hold -/
theorem kOk.up {a b : Nat → Nat → Int32} (h : kOk a k) (e : ∀ i, i < k → b 7 i = a 7 i) : kOk b k := ⟨h.1, fun i hi => by rw [e i hi]; exact h.2 i hi⟩
theorem lgt_ok {x : Int32} (h1 : 1 ≤ x) (h2 : x ≤ 20) : COk (lgt c x) (tn x) 0 0 0 0 ∧ 1 ≤ tn x ∧ tn x ≤ 20 ∧ x = nI (tn x) := by
  have hx0 : ¬ x < 0 := i32_len (Int32.le_trans (by decide) h1)
  obtain ⟨j, hj, e⟩ := nI_of2 (M := 20) (n := 20) (by decide) hx0 h2
  have h1' : 1 ≤ j := (nI_leI (a := 1) (by omega) (by omega)).mp (by rw [← e]; exact h1)
  have ht : tn x = j := by rw [e]; exact tn_nI (by omega)
  rw [ht]
  refine ⟨⟨h1', ⟨⟨e, by omega⟩, ⟨rfl, by omega⟩, ⟨rfl, ⟨by omega, fun i hi => absurd hi (by omega)⟩⟩⟩, ⟨⟨rfl, by omega⟩, fun i hi => absurd hi (by omega)⟩, ⟨rfl, by omega⟩⟩, h1', by omega, e⟩
theorem fThick_ok {x y : Int32} (hc : COk c n d p u k) : COk (fThick c x y).2 n d p u k := by
  unfold fThick
  split
  · split
    · exact hc
    · exact hc
  · exact hc
theorem fDoor_ok {x : Int32} (hc : COk c n d p u k) : ∃ d', COk (fDoor c x).2 n d' p u k := by
  unfold fDoor
  split
  · split
    · exact ⟨d, hc⟩
    · rename_i h
      have hd := hc.2.1.2.1.1
      have hd2 := hc.2.1.2.1.2
      have : d ≠ 5 := fun e => h (by rw [hd, e]; rfl)
      exact ⟨d + 1, hc.1, ⟨hc.2.1.1, ⟨(by show c.1 4 + 1 = _; rw [hd, nI_1]), by omega⟩, hc.2.1.2.2⟩, hc.2.2⟩
  · exact ⟨d, hc⟩
theorem fOpen_ok {x y : Int32} (hc : COk c n d p u k) : COk (fOpen c x y).2 n d p u k := by
  unfold fOpen
  split
  · split
    · exact hc
    · exact hc
  · exact hc
theorem fPin_ok {x y : Int32} (hc : COk c n d p u k) : ∃ p', COk (fPin c x y).2 n d p' u k := by
  unfold fPin
  split
  · rename_i hv
    split
    · exact ⟨p, hc⟩
    · split
      · exact ⟨p, hc⟩
      · rename_i h
        have hp := hc.2.2.1.1.1
        have hp2 := hc.2.2.1.1.2
        have : p ≠ 9 := fun e => h (by rw [hp, e]; rfl)
        rw [hc.2.1.1.1] at hv
        have hn2 := hc.2.1.1.2
        obtain ⟨s, hs, es⟩ := ix_of (by omega) hv.2.1 hv.2.2
        refine ⟨p + 1, hc.1, ⟨hc.2.1.1, hc.2.1.2.1, hc.2.1.2.2⟩, ⟨⟨(by show c.1 6 + 1 = _; rw [hp, nI_1]), by omega⟩, fun i hi => ?_⟩, hc.2.2.2⟩
        have e3 : (pinA c.2 (tn (c.1 6)) x y (-1)) 3 = upd (c.2 3) p y := by
          show upd (c.2 3) (tn (c.1 6)) y = _
          rw [hp, tn_nI (by omega)]
        show ∃ s, s < n ∧ (pinA c.2 (tn (c.1 6)) x y (-1)) 3 i = nI s
        rw [e3]
        by_cases hip : i = p
        · subst hip
          exact ⟨s, hs, pk_us.trans es⟩
        · rw [pk_un hip]
          exact hc.2.2.1.2 i (by omega)
  · exact ⟨p, hc⟩
theorem fMember_ok {x pa f t : Int32} (hc : COk c n d p u k) : ∃ k', COk (fMember c x pa f t).2 n d p u k' := by
  unfold fMember
  split
  · rename_i hv
    split
    · exact ⟨k, hc⟩
    · rename_i h
      have hk := hc.2.1.2.2.1
      have hk2 := hc.2.1.2.2.2
      have : k ≠ 6 := fun e => h (by rw [hk, e]; rfl)
      have hk6 := hk2.1
      obtain ⟨j, hj, ex⟩ := nI_of2 (M := 5) (n := 5) (by decide) (i32_len hv.1.1) hv.1.2
      refine ⟨k + 1, hc.1, ⟨hc.2.1.1, hc.2.1.2.1, ⟨(by show c.1 8 + 1 = _; rw [hk, nI_1]), ⟨by omega, fun i hi => ?_⟩⟩⟩, hc.2.2⟩
      have e3 : (stA c.2 (tn (c.1 8)) x pa f t) 7 = upd (c.2 7) k x := by
        show upd (c.2 7) (tn (c.1 8)) x = _
        rw [hk, tn_nI (by omega)]
      show ∃ s, s < 6 ∧ (stA c.2 (tn (c.1 8)) x pa f t) 7 i = nI s
      rw [e3]
      by_cases hip : i = k
      · subst hip
        exact ⟨j, by omega, pk_us.trans ex⟩
      · rw [pk_un hip]
        exact hk2.2 i (by omega)
  · exact ⟨k, hc⟩
end Fun
