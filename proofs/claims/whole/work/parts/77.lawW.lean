/-! the law's world: the house, behind it the reference -/
def plX : List Nat := List.range 92
def plM : List Nat := [92, 93, 94, 95, 96]
def gW (C : Nat → Ch) (F : Nat → Nat → Int32) (R T K D s : Nat → Int32) : Wd := hW C F ++ sh 92 (mW R T K D s)
theorem rc_clo {B : Nat} {f : Nat → Nat} (h : ∀ k, k < B → f k = k) {c : Cel} (hc : cloC B c = true) : rc f c = c := by
  match c, hc with
  | .inl a, _ => rfl
  | .inr (.inl (t, fs)), hc =>
    have hc : fs.all (cloO B) = true := hc
    show ra t (fs.map (Option.map f)) = ra t fs
    have : fs.map (Option.map f) = fs := by
      induction fs with
      | nil => rfl
      | cons a l ih =>
        simp only [List.all_cons, Bool.and_eq_true] at hc
        rw [List.map_cons, ih hc.2 hc.2]
        match a, hc.1 with
        | none, _ => rfl
        | some k, h1 =>
          have h1 : k < B := Nat.le_of_ble_eq_true h1
          show some (f k) :: l = _
          rw [h k h1]
    rw [this]
  | .inr (.inr (ci, fs)), hc =>
    have hc : fs.all (cloV B) = true := hc
    show ob ci (fs.map (cv f)) = ob ci fs
    have : fs.map (cv f) = fs := by
      induction fs with
      | nil => rfl
      | cons a l ih =>
        simp only [List.all_cons, Bool.and_eq_true] at hc
        rw [List.map_cons, ih hc.2 hc.2]
        have e : cv f a = a := by
          rw [clo_v (g := fun k => k) h hc.1]
          exact cv_id a
        rw [e]
    rw [this]
theorem all_at {B : Nat} {A : Wd} (h : A.all (cloC B) = true) {i : Nat} {c : Cel} (e : A[i]? = some c) : cloC B c = true := by
  rw [List.all_eq_true] at h
  exact h c (List.mem_of_getElem? e)
theorem rnX {N : Nat} : ∀ k, k < 108 → rn plX N k = k := by
  intro k hk
  unfold rn
  by_cases h : k < 16
  · rw [if_pos h]
  · have hl : plX.length = 92 := List.length_range
    rw [if_neg h, if_pos (by omega)]
    have : plX.getD (k - 16) 0 = k - 16 := by
      unfold plX
      rw [List.getD_eq_getElem?_getD, List.getElem?_range (by omega)]
      rfl
    omega
theorem hclo (C : Nat → Ch) (F : Nat → Nat → Int32) : (hW C F).all (cloC 108) = true := rfl
section LW
variable {C C' : Nat → Ch} {F F' : Nat → Nat → Int32} {R T K D s R' T' K' D' s' : Nat → Int32}
theorem glen : (gW C F R T K D s).length = 97 := rfl
theorem ptX : Pt2 plX (hW C F) (gW C F R T K D s) := by
  unfold Pt2
  generalize (gW C F R T K D s).length = N
  have hl : plX.length = 92 := List.length_range
  apply List.ext_getElem?
  intro i
  rw [List.getElem?_map, List.getElem?_map, List.getElem?_map]
  by_cases hi : i < 92
  · have e1 : plX[i]? = some i := List.getElem?_range hi
    have hi2 : i < (hW C F).length := by rw [hlen]; exact hi
    have e2 : (hW C F)[i]? = some (hW C F)[i] := List.getElem?_eq_getElem hi2
    rw [e1, e2]
    show some ((gW C F R T K D s)[i]?) = some (some (rc (rn plX N) (hW C F)[i]))
    unfold gW
    rw [List.getElem?_append_left hi2, e2, rc_clo rnX (all_at (hclo C F) e2)]
  · have e1 : plX[i]? = none := List.getElem?_eq_none (by omega)
    have e2 : (hW C F)[i]? = none := List.getElem?_eq_none (by rw [hlen]; omega)
    rw [e1, e2]
    rfl
theorem ndX : va_nd plX = true := by decide +kernel
theorem wrX : wr (rn plX (gW C F R T K D s).length) (gW C F R T K D s) plX (hW C' F') = gW C' F' R T K D s := by
  generalize (gW C F R T K D s).length = N
  apply List.ext_getElem?
  intro i
  by_cases hi : i < 92
  · have e1 : plX[i]? = some i := List.getElem?_range hi
    have hi2 : i < (hW C' F').length := by rw [hlen]; exact hi
    have e2 : (hW C' F')[i]? = some (hW C' F')[i] := List.getElem?_eq_getElem hi2
    rw [wr_in (rn plX N) plX (hW C' F') (gW C F R T K D s) i i _ ndX (fun j hj => by rw [glen]; have := List.mem_range.mp hj; omega) e1 e2, rc_clo rnX (all_at (hclo C' F') e2)]
    unfold gW
    rw [List.getElem?_append_left hi2, e2]
  · have hn : i ∉ plX := fun h => hi (List.mem_range.mp h)
    rw [wr_out _ _ _ _ _ hn]
    unfold gW
    rw [List.getElem?_append_right (by rw [hlen]; omega), List.getElem?_append_right (by rw [hlen]; omega), hlen, hlen]
theorem rnM : rn plM 97 = fun r => if r < 16 then r else r + 92 := by
  funext k
  unfold rn
  by_cases h : k < 16
  · rw [if_pos h, if_pos h]
  · rw [if_neg h, if_neg h]
    by_cases h2 : k - 16 < plM.length
    · rw [if_pos h2]
      have h3 : k - 16 < 5 := h2
      have : plM.getD (k - 16) 0 = 92 + (k - 16) := (by decide : ∀ i, i < 5 → plM.getD i 0 = 92 + i) (k - 16) h3
      omega
    · rw [if_neg h2]
      have h3 : ¬ k - 16 < 5 := h2
      have h4 : plM.length = 5 := rfl
      omega
theorem g_at (i : Nat) : (gW C F R T K D s)[92 + i]? = (sh 92 (mW R T K D s))[i]? := by
  unfold gW
  rw [List.getElem?_append_right (by rw [hlen]; omega), hlen, show 92 + i - 92 = i by omega]
theorem ptM : Pt2 plM (mW R T K D s) (gW C F R T K D s) := by
  unfold Pt2
  rw [glen, rnM]
  show [(gW C F R T K D s)[92 + 0]?, (gW C F R T K D s)[92 + 1]?, (gW C F R T K D s)[92 + 2]?, (gW C F R T K D s)[92 + 3]?, (gW C F R T K D s)[92 + 4]?] = _
  rw [g_at, g_at, g_at, g_at, g_at]
  rfl
theorem ndM : va_nd plM = true := by decide
theorem set_r {A B : Wd} {i : Nat} {x : Cel} (h : A.length = 92) : (A ++ B).set (92 + i) x = A ++ B.set i x := by
  rw [List.set_append_right _ _ (by omega), h, show 92 + i - 92 = i by omega]
theorem wrM : wr (rn plM (gW C F R T K D s).length) (gW C F R T K D s) plM (mW R' T' K' D' s') = gW C F R' T' K' D' s' := by
  rw [glen, rnM]
  generalize hf : (fun r => if r < 16 then r else r + 92) = f
  unfold gW mW
  show (((((hW C F ++ _).set (92 + 0) _).set (92 + 1) _).set (92 + 2) _).set (92 + 3) _).set (92 + 4) _ = _
  rw [set_r (hlen C F), set_r (hlen C F), set_r (hlen C F), set_r (hlen C F), set_r (hlen C F), ← hf]
  rfl
theorem asX1 {N : Nat} : [Value.ref 16].map (cv (rn plX N)) = [.ref 16] := by
  show [Value.ref (rn plX N 16)] = _
  rw [rnX 16 (by omega)]
theorem asX {N : Nat} {vs : List Value} (h : vs.map (cv (rn plX N)) = vs) : (Value.ref 16 :: vs).map (cv (rn plX N)) = .ref 16 :: vs := by
  show Value.ref (rn plX N 16) :: vs.map (cv (rn plX N)) = _
  rw [rnX 16 (by omega), h]
theorem gX : (gW C F R T K D s)[0]? = some (ob 10 [.ref 17, .ref 37, .ref 57, .ref 98, .ref 99, .ref 102, .ref 107]) := rfl
theorem gM : (gW C F R T K D s)[92]? = some (ob 11 [.ref 109, .ref 110, .int (s 0), .ref 111, .int (s 1), .int (s 2), .int (s 3), .int (s 4), .int (s 5), .int (s 6), .int (s 7), .ref 112, .int (s 8)]) := g_at 0
end LW
