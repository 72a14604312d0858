theorem tellF_congr {c : Ch} {w : Nat} {a b : Nat → Int32} (hw : w < 6) (h : ∀ j, j < nb w → a j = b j) : tellF c w a = tellF c w b := by
  match w, hw, h with
  | 0, _, h => show fCandle c (a 0) = fCandle c (b 0); rw [h 0 (by decide)]
  | 1, _, h => show fThick c (a 0) (a 1) = fThick c (b 0) (b 1); rw [h 0 (by decide), h 1 (by decide)]
  | 2, _, h => show fDoor c (a 0) = fDoor c (b 0); rw [h 0 (by decide)]
  | 3, _, h => show fOpen c (a 0) 1 = fOpen c (b 0) 1; rw [h 0 (by decide)]
  | 4, _, h => show fPin c (a 0) (a 1) = fPin c (b 0) (b 1); rw [h 0 (by decide), h 1 (by decide)]
  | 5, _, h => show fMember c (a 0) (a 1) (a 2) (a 3) = fMember c (b 0) (b 1) (b 2) (b 3); rw [h 0 (by decide), h 1 (by decide), h 2 (by decide), h 3 (by decide)]
  | w + 6, hw, _ => exact absurd hw (by omega)
abbrev tlI (D : Nat → Int32) (i : Nat) (c : Ch) : Int32 × Ch := tellF c (tn (D (5 * i))) (fun j => D (5 * i + 1 + j))
/-- the recorded items, told one behind another -/
def tlD (D : Nat → Int32) : Nat → Nat → Ch → Int32 × Ch
  | 0, i, c => (nI i, c)
  | z + 1, i, c => if (tlI D i c).1 < 0 then (-1000 - nI i, (tlI D i c).2) else tlD D z (i + 1) (tlI D i c).2
section Tlt
variable {B D : Nat → Int32} {l m : Nat} {g : Nat → Nat}
theorem tlT_s {j : Nat} (hj : j < 151) (q : Nat) (r : Int32) (nm : Nat → Int32) (c : Ch) : tlT B l (151 - j) j q r nm c = if (tkR B l q).1 = 3 ∧ 0 < j then (if r = -1 then nI j else -1000 - r, c) else
    match prI B l j q nm with
    | .inl f => (-10 - nI f, c)
    | .inr (w, nm2, p2) => if r = -1 then (if (tellF c w nm2).1 < 0 then tlT B l (151 - (j + 1)) (j + 1) p2 (nI j) nm2 (tellF c w nm2).2 else tlT B l (151 - (j + 1)) (j + 1) p2 (-1) nm2 (tellF c w nm2).2) else tlT B l (151 - (j + 1)) (j + 1) p2 r nm2 c := by
  rw [show 151 - j = (151 - (j + 1)) + 1 by omega]
  rfl
theorem tlT_i {j w p2 : Nat} {q : Nat} {r : Int32} {nm nm2 : Nat → Int32} {c : Ch} (hj : j < 151) (h : j = 0 ∨ ¬ (tkR B l q).1 = 3) (e : prI B l j q nm = .inr (w, nm2, p2)) : tlT B l (151 - j) j q r nm c = if r = -1 then (if (tellF c w nm2).1 < 0 then tlT B l (151 - (j + 1)) (j + 1) p2 (nI j) nm2 (tellF c w nm2).2 else tlT B l (151 - (j + 1)) (j + 1) p2 (-1) nm2 (tellF c w nm2).2) else tlT B l (151 - (j + 1)) (j + 1) p2 r nm2 c := by
  have n : ¬ ((tkR B l q).1 = 3 ∧ 0 < j) := fun z => by
    rcases h with h | h
    · omega
    · exact h z.1
  rw [tlT_s hj, if_neg n, e]
theorem tlT_f {j f : Nat} {q : Nat} {r : Int32} {nm : Nat → Int32} {c : Ch} (hj : j < 151) (h : j = 0 ∨ ¬ (tkR B l q).1 = 3) (e : prI B l j q nm = .inl f) : tlT B l (151 - j) j q r nm c = (-10 - nI f, c) := by
  have n : ¬ ((tkR B l q).1 = 3 ∧ 0 < j) := fun z => by
    rcases h with h | h
    · omega
    · exact h z.1
  rw [tlT_s hj, if_neg n, e]
theorem tl_fault {f : Nat} (ch : Chn B l D g m) (hm : m = 0 ∨ ¬ (tkR B l (g m)).1 = 3) (h30 : m ≤ 30) (hf : ∀ nm, prI B l m (g m) nm = .inl f) : ∀ j, j ≤ m → ∀ r nm c, (tlT B l (151 - j) j (g j) r nm c).1 = -10 - nI f := by
  refine dn m ?_
  intro j hj ih r nm c
  by_cases e : j = m
  · subst e
    rw [tlT_f (by omega) hm (hf nm)]
  · have ih := ih (by omega)
    obtain ⟨h1, w, h2, h3, h4, h5⟩ := ch.2 j (by omega)
    obtain ⟨nm2, h6, h7⟩ := h5 nm
    rw [tlT_i (by omega) h1 h6]
    split
    · split
      · exact ih _ _ _
      · exact ih _ _ _
    · exact ih _ _ _
theorem tl_skip (ch : Chn B l D g m) (h30 : m ≤ 30) (m1 : 1 ≤ m) (h3 : (tkR B l (g m)).1 = 3) : ∀ j, j ≤ m → ∀ r nm c, ¬ r = -1 → tlT B l (151 - j) j (g j) r nm c = (-1000 - r, c) := by
  refine dn m ?_
  intro j hj ih r nm c hr
  by_cases e : j = m
  · subst e
    rw [tlT_s (by omega), if_pos ⟨h3, by omega⟩, if_neg hr]
  · have ih := ih (by omega)
    obtain ⟨h1, w, h2, h3, h4, h5⟩ := ch.2 j (by omega)
    obtain ⟨nm2, h6, h7⟩ := h5 nm
    rw [tlT_i (by omega) h1 h6, if_neg hr]
    exact ih _ _ _ hr
theorem tl_ok (ch : Chn B l D g m) (h30 : m ≤ 30) (m1 : 1 ≤ m) (h3 : (tkR B l (g m)).1 = 3) : ∀ j, j ≤ m → ∀ nm c, tlT B l (151 - j) j (g j) (-1) nm c = tlD D (m - j) j c := by
  refine dn m ?_
  intro j hj ih nm c
  by_cases e : j = m
  · subst e
    rw [tlT_s (by omega), if_pos ⟨h3, by omega⟩, if_pos rfl, Nat.sub_self]
    rfl
  · have ih := ih (by omega)
    obtain ⟨h1, w, h2, h4, h5, h6⟩ := ch.2 j (by omega)
    obtain ⟨nm2, h7, h8⟩ := h6 nm
    have et : tellF c w nm2 = tlI D j c := by
      show _ = tellF c (tn (D (5 * j))) (fun i => D (5 * j + 1 + i))
      rw [h5, tn_nI (by omega)]
      exact tellF_congr h2 h8
    have e2 : tlD D (m - j) j c = if (tlI D j c).1 < 0 then (-1000 - nI j, (tlI D j c).2) else tlD D (m - (j + 1)) (j + 1) (tlI D j c).2 := by
      rw [show m - j = (m - (j + 1)) + 1 by omega]
      rfl
    rw [tlT_i (by omega) h1 h7, if_pos rfl, et, e2]
    split
    · exact tl_skip ch h30 m1 h3 (j + 1) (by omega) _ _ _ (nI_nm1 (by omega))
    · exact ih _ _
/-- the draft's slices are never below 0 -/
theorem tellF_0 {c : Ch} {w : Nat} {nm : Nat → Int32} (h : ¬ c.1 0 < 0) : ¬ (tellF c w nm).2.1 0 < 0 := by
  match w with
  | 0 =>
    show ¬ (fCandle c (nm 0)).2.1 0 < 0
    unfold fCandle
    split
    · rename_i hv
      show ¬ nm 0 < 0
      exact fun z => i32_len (Int32.le_trans (by decide : (0 : Int32) ≤ 1) hv.1) z
    · exact h
  | 1 =>
    show ¬ (fThick c (nm 0) (nm 1)).2.1 0 < 0
    unfold fThick
    split
    · split
      · exact h
      · exact h
    · exact h
  | 2 =>
    show ¬ (fDoor c (nm 0)).2.1 0 < 0
    unfold fDoor
    split
    · split
      · exact h
      · exact h
    · exact h
  | 3 =>
    show ¬ (fOpen c (nm 0) 1).2.1 0 < 0
    unfold fOpen
    split
    · split
      · exact h
      · exact h
    · exact h
  | 4 =>
    show ¬ (fPin c (nm 0) (nm 1)).2.1 0 < 0
    unfold fPin
    split
    · split
      · exact h
      · split
        · exact h
        · exact h
    · exact h
  | w + 5 =>
    show ¬ (fMember c (nm 0) (nm 1) (nm 2) (nm 3)).2.1 0 < 0
    unfold fMember
    split
    · split
      · exact h
      · exact h
    · exact h
theorem tlT_0 : ∀ z i p r nm c, ¬ c.1 0 < 0 → ¬ (tlT B l z i p r nm c).2.1 0 < 0
  | 0, i, p, r, nm, c, h => h
  | z + 1, i, p, r, nm, c, h => by
    unfold tlT
    split
    · exact h
    · split
      · exact h
      · split
        · split
          · exact tlT_0 z _ _ _ _ _ (tellF_0 h)
          · exact tlT_0 z _ _ _ _ _ (tellF_0 h)
        · exact tlT_0 z _ _ _ _ _ h
end Tlt
