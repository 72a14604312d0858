theorem V_aastB3 {K : Kt} {pc : Nat} {ls : List (Option Value)} {st : List Value} {ws : Wd} {cel slo : Nat} {Q : Option Value → Wd → Prop} {r y ci : Nat} {q : vw_C} {vs : List Value} {fs : List (Option Nat)} {i : Int32} {j : Nat} (hd : decode K.2.1 pc = .ok (.aastore, 1)) (hr : ws[r]? = some (ra 3 fs)) (hi : i = nI j) (hj : j < fs.length) (hN : fs.length < 2147483648) (hy : ws[y]? = some (ob ci vs)) (hq : clsL[ci]? = some q) (hca : Cond.castable q.1 "CandleHouse$Plain" ∈ lw_tbl ∨ q.1 = "CandleHouse$Plain") (k : V K (pc + 1) ls st (ws.set r (ra 3 (fs.set j (some (y + 16))))) cel slo Q) : V K pc ls (.ref (y + 16) :: .int i :: .ref (r + 16) :: st) ws cel slo Q := by
  have h := vpn hi hj hN
  have k2 : V K (pc + 1) ls st (ws.set r (ra 3 (fs.set i.toNatClampNeg (some (16 + y))))) cel slo Q := by
    rw [h.2, Nat.add_comm 16 y]; exact k
  rw [Nat.add_comm y 16, Nat.add_comm r 16]
  rcases hca with hca | hca
  · exact V_aast3 hd hr h.1 hy hq hca k2
  · intro p l e s m args below meth c D A n0 ad0 ac0 Z ad ac H locs lsA hC hR hG hH hL
    have hty : tyT 3 = .object q.1 := by rw [hca]; rfl
    refine va_astq hC.1 hC.2.1 (tys := [(ac (16 + r), tyT 3)]) ⟨hC.2.2.2.2.2.2.2.2.1, fun k q h => by cases k with | zero => (cases h; exact hH.2.2.1 r 3 _ hr rfl) | succ k => simp at h⟩ hH.1 hH.2.1 hH.2.2.2 r 0 y ci (cW_at hr) (by rw [← hty]; rfl) (cW_at hy) hq h.1 hd (fun H1 locs1 hP hD hS => ?_)
    have hlt : i.toNatClampNeg < fs.length := Nat.not_le.mp fun q => h.1 (Or.inr q)
    have e0 : va_up (fun i => (fs.getD i none).map ad) i.toNatClampNeg (some (ad (16 + y))) = fun j => ((fs.set i.toNatClampNeg (some (16 + y))).getD j none).map ad := by
      funext j
      simp only [va_up, List.getD_eq_getElem?_getD, List.getElem?_set]
      by_cases hij : j = i.toNatClampNeg
      · subst hij; simp [hlt]
      · simp [hij, Ne.symm hij]
    have e1 : (cW ad ac ws).set r (ad (16 + r), .inl (ac (16 + r), (fs.length, .inr (.inr (.inr (.inr (va_up (fun i => (fs.getD i none).map ad) i.toNatClampNeg (some (ad (16 + y)))))))))) = cW ad ac (ws.set r (ra 3 (fs.set i.toNatClampNeg (some (16 + y))))) := by
      rw [← cW_set, e0]
      congr 2
      simp only [ce, List.length_set]
    rw [e1] at hP hD
    exact k2 p l e s m args below meth c D A n0 ad0 ac0 Z ad ac H1 locs1 lsA hC hR ⟨hG.1, fun h => by have := hG.2.1 h; simpa using this, by simpa using hG.2.2⟩ ⟨hP, hD, hH.2.2.1.set hr rfl, hS⟩ hL
theorem V_aastB4 {K : Kt} {pc : Nat} {ls : List (Option Value)} {st : List Value} {ws : Wd} {cel slo : Nat} {Q : Option Value → Wd → Prop} {r y ci : Nat} {q : vw_C} {vs : List Value} {fs : List (Option Nat)} {i : Int32} {j : Nat} (hd : decode K.2.1 pc = .ok (.aastore, 1)) (hr : ws[r]? = some (ra 4 fs)) (hi : i = nI j) (hj : j < fs.length) (hN : fs.length < 2147483648) (hy : ws[y]? = some (ob ci vs)) (hq : clsL[ci]? = some q) (hca : Cond.castable q.1 "CandleHouse$Chamber" ∈ lw_tbl ∨ q.1 = "CandleHouse$Chamber") (k : V K (pc + 1) ls st (ws.set r (ra 4 (fs.set j (some (y + 16))))) cel slo Q) : V K pc ls (.ref (y + 16) :: .int i :: .ref (r + 16) :: st) ws cel slo Q := by
  have h := vpn hi hj hN
  have k2 : V K (pc + 1) ls st (ws.set r (ra 4 (fs.set i.toNatClampNeg (some (16 + y))))) cel slo Q := by
    rw [h.2, Nat.add_comm 16 y]; exact k
  rw [Nat.add_comm y 16, Nat.add_comm r 16]
  rcases hca with hca | hca
  · exact V_aast4 hd hr h.1 hy hq hca k2
  · intro p l e s m args below meth c D A n0 ad0 ac0 Z ad ac H locs lsA hC hR hG hH hL
    have hty : tyT 4 = .object q.1 := by rw [hca]; rfl
    refine va_astq hC.1 hC.2.1 (tys := [(ac (16 + r), tyT 4)]) ⟨hC.2.2.2.2.2.2.2.2.1, fun k q h => by cases k with | zero => (cases h; exact hH.2.2.1 r 4 _ hr rfl) | succ k => simp at h⟩ hH.1 hH.2.1 hH.2.2.2 r 0 y ci (cW_at hr) (by rw [← hty]; rfl) (cW_at hy) hq h.1 hd (fun H1 locs1 hP hD hS => ?_)
    have hlt : i.toNatClampNeg < fs.length := Nat.not_le.mp fun q => h.1 (Or.inr q)
    have e0 : va_up (fun i => (fs.getD i none).map ad) i.toNatClampNeg (some (ad (16 + y))) = fun j => ((fs.set i.toNatClampNeg (some (16 + y))).getD j none).map ad := by
      funext j
      simp only [va_up, List.getD_eq_getElem?_getD, List.getElem?_set]
      by_cases hij : j = i.toNatClampNeg
      · subst hij; simp [hlt]
      · simp [hij, Ne.symm hij]
    have e1 : (cW ad ac ws).set r (ad (16 + r), .inl (ac (16 + r), (fs.length, .inr (.inr (.inr (.inr (va_up (fun i => (fs.getD i none).map ad) i.toNatClampNeg (some (ad (16 + y)))))))))) = cW ad ac (ws.set r (ra 4 (fs.set i.toNatClampNeg (some (16 + y))))) := by
      rw [← cW_set, e0]
      congr 2
      simp only [ce, List.length_set]
    rw [e1] at hP hD
    exact k2 p l e s m args below meth c D A n0 ad0 ac0 Z ad ac H1 locs1 lsA hC hR ⟨hG.1, fun h => by have := hG.2.1 h; simpa using this, by simpa using hG.2.2⟩ ⟨hP, hD, hH.2.2.1.set hr rfl, hS⟩ hL
