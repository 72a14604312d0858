theorem map_clo {f : Nat → Nat} {B : Nat} (h : ∀ k, k < B → f k = k) : ∀ A : Wd, A.all (cloC B) = true → A.map (rc f) = A
  | [], _ => rfl
  | c :: A, hc => by
    simp only [List.all_cons, Bool.and_eq_true] at hc
    rw [List.map_cons, map_clo h A hc.2, rc_clo h hc.1]
theorem rn0 (k : Nat) : rn [0] 1 k = k := by
  unfold rn
  by_cases h : k < 16
  · rw [if_pos h]
  · rw [if_neg h]
    have hl : [0].length = 1 := rfl
    by_cases h2 : k - 16 < [0].length
    · rw [if_pos h2]
      have : k = 16 := by omega
      subst this
      rfl
    · rw [if_neg h2]
      omega
theorem mkX (C : Nat → Ch) (F : Nat → Nat → Int32) (c : Cel) : wr (rn [0] 1) [c] [0] ((hW C F).take 1) ++ ((hW C F).drop 1).map (rc (rn [0] 1)) = hW C F := by
  have h : ∀ k, k < 108 → rn [0] 1 k = k := fun k _ => rn0 k
  have e1 : wr (rn [0] 1) [c] [0] ((hW C F).take 1) = ((hW C F).take 1).map (rc (rn [0] 1)) := rfl
  rw [e1, ← List.map_append, List.take_append_drop, map_clo h _ (hclo C F)]
abbrev nulM : Cel := ob 11 [.null, .null, .int 0, .null, .int 0, .int 0, .int 0, .int 0, .int 0, .int 0, .int 0, .null, .int 0]
theorem rn92 : rn [92] 93 = fun r => if r < 16 then r else r + 92 := by
  funext k
  unfold rn
  by_cases h : k < 16
  · rw [if_pos h, if_pos h]
  · rw [if_neg h, if_neg h]
    have hl : [92].length = 1 := rfl
    by_cases h2 : k - 16 < [92].length
    · rw [if_pos h2]
      have : k = 16 := by omega
      subst this
      rfl
    · rw [if_neg h2]
      omega
theorem mkM (C : Nat → Ch) (F : Nat → Nat → Int32) (R T K D s : Nat → Int32) (c : Cel) : wr (rn [92] 93) (hW C F ++ [c]) [92] ((mW R T K D s).take 1) ++ ((mW R T K D s).drop 1).map (rc (rn [92] 93)) = gW C F R T K D s := by
  rw [rn92]
  have e1 : ∀ x, (hW C F ++ [c]).set 92 x = hW C F ++ [x] := fun x => by
    have := set_r (B := [c]) (i := 0) (x := x) (hlen C F)
    exact this
  have e2 : ∀ f, wr f (hW C F ++ [c]) [92] ((mW R T K D s).take 1) = (hW C F ++ [c]).set 92 (rc f (ob 11 [.ref 17, .ref 18, .int (s 0), .ref 19, .int (s 1), .int (s 2), .int (s 3), .int (s 4), .int (s 5), .int (s 6), .int (s 7), .ref 20, .int (s 8)])) := fun _ => rfl
  rw [e2, e1, List.append_assoc]
  rfl
theorem ptN (C : Nat → Ch) (F : Nat → Nat → Int32) : Pt2 [92] [nulM] (hW C F ++ [nulM]) := by
  unfold Pt2
  show [(hW C F ++ [nulM])[92]?] = _
  rw [List.getElem?_append_right (by rw [hlen]; omega), hlen]
  rfl
theorem Jn0 : Jn (fun _ => c0) (fun _ _ => 0) (bgR (fun _ => 0) 10) (fun _ => 0) (fun _ => 0) (fun _ => 0) 0 :=
  ⟨⟨10, 0, 0, 0, 0, K_candle (m := 10) (by decide) (by decide), In_candle (m := 10) (by decide)⟩, (show ¬ (10 : Int32) < 0 by decide), rfl, fun m hm h => absurd rfl h, ⟨rfl, rfl, rfl⟩, rfl, rfl, 0, by omega, rfl, rfl⟩
section Start
variable {L : Nat} {xs : Nat → Int32}
theorem V_law (hL : L ≤ 384) : V (kL_law L xs) 0 [some (.ref 0), none, none, none] [] [] 0 0 qT := by
  refine iL_law_0 (by decide) (by decide) rfl ?_
  change V (kL_law L xs) 3 _ [.ref 16] [ob 10 [.null, .null, .null, .null, .null, .null, .null]] 1 7 _
  refine iL_law_3 rfl ?_
  refine iL_law_4 [0] [ob 10 [.null, .null, .null, .null, .null, .null, .null]] [.ref 16] (by unfold Pt2; rfl) (by decide) rfl rfl (Nat.le_of_ble_eq_true rfl) (by decide) (by decide) rfl (I_X10 (fun _ => ?_))
  change V (kL_law L xs) 7 _ [.ref 16] (wr (rn [0] 1) [ob 10 [.null, .null, .null, .null, .null, .null, .null]] [0] ((hW (fun _ => c0) (fun _ _ => 0)).take 1) ++ ((hW (fun _ => c0) (fun _ _ => 0)).drop 1).map (rc (rn [0] 1))) 92 1100 _
  rw [mkX]
  refine iL_law_7 rfl ?_
  refine iL_law_8 (by decide) (by decide) rfl ?_
  change V (kL_law L xs) 11 _ [.ref 108] (hW (fun _ => c0) (fun _ _ => 0) ++ [nulM]) 93 1113 _
  refine iL_law_11 rfl ?_
  refine iL_law_12 (r := 92) (fs := [.null, .null, .int 0, .null, .int 0, .int 0, .int 0, .int 0, .int 0, .int 0, .int 0, .null, .int 0]) [92] [nulM] [.ref 16] (ptN _ _) (by decide) rfl ?_ (Nat.le_of_ble_eq_true rfl) (by decide) (by decide) rfl (I_X11 (fun _ => ?_))
  · rw [List.getElem?_append_right (by rw [hlen]; omega), hlen]
    rfl
  change V (kL_law L xs) 15 _ [.ref 108] (wr (rn [92] 93) (hW (fun _ => c0) (fun _ _ => 0) ++ [nulM]) [92] ((mW (bgR (fun _ => 0) 10) (fun _ => 0) (fun _ => 0) (fun _ => 0) (fun _ => 0)).take 1) ++ ((mW (bgR (fun _ => 0) 10) (fun _ => 0) (fun _ => 0) (fun _ => 0) (fun _ => 0)).drop 1).map (rc (rn [92] 93))) 97 1867 _
  rw [mkM]
  refine iL_law_15 rfl (iL_law_16 (iL_law_17 rfl ?_))
  exact Lp hL 0 (Nat.zero_le _) _ _ _ _ _ _ _ Jn0
end Start
