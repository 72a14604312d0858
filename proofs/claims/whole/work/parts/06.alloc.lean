/-! new cells, and what they ask: that no reference points beyond the world -/
def cloV (B : Nat) (v : Value) : Bool := match v with
  | .ref k => Nat.blt k B
  | _ => true
def cloO (B : Nat) (o : Option Nat) : Bool := match o with
  | some k => Nat.blt k B
  | none => true
def cloC (B : Nat) (c : Cel) : Bool := match c with
  | .inl _ => true
  | .inr (.inl (_, fs)) => fs.all (cloO B)
  | .inr (.inr (_, fs)) => fs.all (cloV B)
def cloL (B : Nat) (o : Option Value) : Bool := match o with
  | some v => cloV B v
  | none => true
def clo (B : Nat) (ls : List (Option Value)) (st : List Value) (ws : Wd) : Bool := ls.all (cloL B) && (st.all (cloV B) && ws.all (cloC B))
theorem clo_v {B : Nat} {f g : Nat → Nat} (he : ∀ k, k < B → f k = g k) {v : Value} (h : cloV B v = true) : cv f v = cv g v := by
  cases v with
  | ref k => exact congrArg Value.ref (he k (Nat.blt_eq.mp h))
  | _ => rfl
theorem clo_vs {B : Nat} {f g : Nat → Nat} (he : ∀ k, k < B → f k = g k) {l : List Value} (h : l.all (cloV B) = true) : l.map (cv f) = l.map (cv g) := by
  apply List.map_congr_left
  intro v hv
  exact clo_v he (List.all_eq_true.mp h v hv)
theorem clo_c {B : Nat} {f g : Nat → Nat} (he : ∀ k, k < B → f k = g k) {c : Cel} (h : cloC B c = true) (cA : ClassId) : ce f cA c = ce g cA c := by
  match c, h with
  | .inl (_, _, _), _ => rfl
  | .inr (.inl (t, fs)), h =>
    have e : (fun i => (fs.getD i none).map f) = fun i => (fs.getD i none).map g := by
      funext i
      simp only [List.getD_eq_getElem?_getD]
      cases hi : fs[i]? with
      | none => rfl
      | some o =>
        cases o with
        | none => rfl
        | some k =>
          have h1 := List.all_eq_true.mp (show fs.all (cloO B) = true from h) (some k) (List.mem_of_getElem? hi)
          exact congrArg some (he k (Nat.blt_eq.mp h1))
    show Sum.inl (cA, (fs.length, _)) = Sum.inl (cA, (fs.length, _))
    rw [e]
  | .inr (.inr (ci, fs)), h =>
    show Sum.inr (ci, fs.map (cv f)) = Sum.inr (ci, fs.map (cv g))
    rw [clo_vs he (show fs.all (cloV B) = true from h)]
theorem cW_len (ad : Nat → Nat) (ac : Nat → ClassId) (ws : Wd) : (cW ad ac ws).length = ws.length := by simp [cW]
theorem clo_w {f g : Nat → Nat} {ac ac' : Nat → ClassId} {ws : Wd} {B : Nat} (hB : 16 + ws.length ≤ B) (he : ∀ k, k < B → f k = g k) (ha : ∀ k, k < B → ac k = ac' k) (h : ws.all (cloC B) = true) : cW f ac ws = cW g ac' ws := by
  apply List.ext_getElem?
  intro i
  rw [cW_get, cW_get]
  cases hi : ws[i]? with
  | none => rfl
  | some c =>
    have hl : i < ws.length := (List.getElem?_eq_some_iff.mp hi).1
    show some (f (16 + i), ce f (ac (16 + i)) c) = some (g (16 + i), ce g (ac' (16 + i)) c)
    rw [he _ (by omega), ha _ (by omega), clo_c he (List.all_eq_true.mp h c (List.mem_of_getElem? hi))]
theorem cW_app (ad : Nat → Nat) (ac : Nat → ClassId) (ws : Wd) (c : Cel) : cW ad ac (ws ++ [c]) = cW ad ac ws ++ [(ad (16 + ws.length), ce ad (ac (16 + ws.length)) c)] := by
  simp [cW, List.mapIdx_append]
theorem Ar.grow {ac ac' : Nat → ClassId} {ws : Wd} {U : State} (h : Ar ac ws U) (ha : ∀ k, k < 16 + ws.length → ac' k = ac k) : Ar ac' ws U := by
  intro i t c hc ht
  rw [ha _ (by have := (List.getElem?_eq_some_iff.mp hc).1; omega)]
  exact h i t c hc ht
theorem Ar.app {ac : Nat → ClassId} {ws : Wd} {U : State} {c : Cel} (h : Ar ac ws U) (hc : ∀ t, ctag c = some t → ArrOfT U (ac (16 + ws.length)) (tyT t) ∧ va_RA U (ac (16 + ws.length)) (tyT t)) : Ar ac (ws ++ [c]) U := by
  intro i t d hd ht
  by_cases hi : i < ws.length
  · rw [List.getElem?_append_left hi] at hd
    exact h i t d hd ht
  · rw [List.getElem?_append_right (by omega)] at hd
    have hz : i - ws.length < 1 := (List.getElem?_eq_some_iff.mp hd).1
    have hi2 : i = ws.length := by omega
    subst hi2
    simp at hd
    subst hd
    exact hc t ht
theorem Lh.grow {lsA : Array Slot} {n B : Nat} {f g : Nat → Nat} {ls : List (Option Value)} (h : Lh lsA n f ls) (he : ∀ k, k < B → g k = f k) (hc : ls.all (cloL B) = true) : Lh lsA n g ls := by
  refine ⟨h.1, h.2.1, fun i v hi => ?_⟩
  have := List.all_eq_true.mp hc (some v) (List.mem_of_getElem? hi)
  rw [clo_v he (show cloV B v = true from this)]
  exact h.2.2 i v hi
section Alloc
variable {K : Kt} {pc : Nat} {ls : List (Option Value)} {st : List Value} {ws : Wd} {cel slo : Nat} {Q : Option Value → Wd → Prop}
theorem V_new {C : String} {T : u_T} {N ci idx : Nat} {fs : List Value} {ty : Nat → FieldType} (hd : decode K.2.1 pc = .ok (.new idx, 3)) (hc : clsL[ci]? = some (C, T, N)) (hin : ∀ w ∈ u_ws C T N, w ∈ lw_tbl ∧ wk w = true) (hty : ∀ k, k < N → parseFieldDescriptor (T k).2.2.1 = some (ty k)) (hcl : Cond.classLink K.1.cls idx C ∈ lw_tbl) (hins : Cond.instantiable C N ∈ lw_tbl) (hini : Cond.initialized C ∈ lw_tbl) (hfs : ∀ j, j < N → defaultValue (ty j) = vp_V fs j) (hf0 : ∀ f : Nat → Nat, fs.map (cv f) = fs) (hce : cel + 1 ≤ K.2.2.2.2.1.cells) (hsl : slo + N ≤ K.2.2.2.2.1.slots) (hclo : clo (16 + ws.length) ls st ws = true)
    (k : V K (pc + 3) ls (.ref (16 + ws.length) :: st) (ws ++ [ob ci fs]) (cel + 1) (slo + N) Q) : V K pc ls st ws cel slo Q := by
  intro p l e s m args below meth c D A n0 ad0 ac0 Z ad ac H locs lsA hC hR hG hH hL
  obtain ⟨hx, hb, hml, hret, hlk, hown, hnm, hT, hKn, hA, hX, hScr⟩ := id hC
  simp only [clo, Bool.and_eq_true] at hclo
  refine va_new (Ts := u_ws C T N) (fs := fs) (ci := ci) (D := D) (cl := clsL) (tys := []) (ws := cW ad ac ws) hx hb (fun w h => hT w (hin w h).1 (hin w h).2 _) (fun _ h => h) ty hty hown (hT _ hcl (wk_cl _ _ _) _) (hT _ hins (wk_insb _ _) _) (hT _ hini (wk_ini _) _) ⟨hKn, fun k q h => by simp at h⟩ hH.1 hH.2.1 hH.2.2.2 hA hc hfs hce hsl hd (fun q H1 hP hD hS => ?_)
  let ad2 : Nat → Nat := fun k => if k < 16 + ws.length then ad k else q
  have he : ∀ k, k < 16 + ws.length → ad2 k = ad k := fun k hk => if_pos hk
  have hq : ad2 (16 + ws.length) = q := if_neg (by omega)
  have e1 : cW ad ac ws ++ [(q, .inr (ci, fs))] = cW ad2 ac (ws ++ [ob ci fs]) := by
    have e2 : ce ad2 (ac (16 + ws.length)) (ob ci fs) = Sum.inr (ci, fs) := by
      show Sum.inr (ci, fs.map (cv ad2)) = _
      rw [hf0]
    rw [cW_app, hq, e2, clo_w (Nat.le_refl _) he (fun _ _ => rfl) hclo.2.2]
  rw [e1] at hP hD
  have := k p l e s m args below meth c D A n0 ad0 ac0 Z ad2 ac H1 locs lsA hC hR ⟨fun k hk => ⟨(he k (by have := hG.2.2; omega)).trans (hG.1 k hk).1, (hG.1 k hk).2⟩, fun h => by omega, by have := hG.2.2; simp; omega⟩ ⟨hP, hD, hH.2.2.1.app (fun t ht => by cases ht), hS⟩ (hL.grow he hclo.1)
  rw [List.map_cons, clo_vs he hclo.2.1] at this
  show W _ _ _ _ _ _ _ _ _ _ _ _ _ _ _ (F0 m (pc + 3) lsA (.ref q :: _))
  rw [← hq]
  exact this
theorem V_newa {at_ : ArrayType} {t N : Nat} {x : Int32} (hd : decode K.2.1 pc = .ok (.newarray at_, 2)) (harr : Cond.arrayClass (newarray.typeOf at_) ∈ lw_tbl) (hty : newarray.typeOf at_ = tyT t) (hdf : defaultValue (tyT t) = .int 0) (hn : ¬ x < 0) (hN : x.toNatClampNeg = N) (hby : N * componentBytes (tyT t) ≤ 536870912) (hce : cel + 1 ≤ K.2.2.2.2.1.cells) (hsl : slo + N ≤ K.2.2.2.2.1.slots) (hclo : clo (16 + ws.length) ls st ws = true)
    (k : V K (pc + 2) ls (.ref (16 + ws.length) :: st) (ws ++ [ia t N (fun _ => 0)]) (cel + 1) (slo + N) Q) : V K pc ls (.int x :: st) ws cel slo Q := by
  intro p l e s m args below meth c D A n0 ad0 ac0 Z ad ac H locs lsA hC hR hG hH hL
  obtain ⟨hx, hb, hml, hret, hlk, hown, hnm, hT, hKn, hA, hX, hScr⟩ := id hC
  simp only [clo, Bool.and_eq_true] at hclo
  refine va_newa (a0 := (N, .inl (fun _ => 0))) (D := D) (cl := clsL) (tys := []) (ws := cW ad ac ws) hx hb (hT _ harr (wk_arr _) _) hty ⟨hKn, fun k q h => by simp at h⟩ hH.1 hH.2.1 hH.2.2.2 hA (fun cA => by rw [vp_cell_i, hdf]) hn hN hby hce hsl hd (fun q cA H1 hK1 hP hD hS => ?_)
  let ad2 : Nat → Nat := fun k => if k < 16 + ws.length then ad k else q
  let ac2 : Nat → ClassId := fun k => if k < 16 + ws.length then ac k else cA
  have he : ∀ k, k < 16 + ws.length → ad2 k = ad k := fun k hk => if_pos hk
  have ha : ∀ k, k < 16 + ws.length → ac2 k = ac k := fun k hk => if_pos hk
  have hq : ad2 (16 + ws.length) = q := if_neg (by omega)
  have hq2 : ac2 (16 + ws.length) = cA := if_neg (by omega)
  have e1 : cW ad ac ws ++ [(q, .inl (cA, (N, .inl (fun _ => 0))))] = cW ad2 ac2 (ws ++ [ia t N (fun _ => 0)]) := by
    rw [cW_app, hq, hq2, clo_w (Nat.le_refl _) he ha hclo.2.2]
    rfl
  rw [e1] at hP hD
  have := k p l e s m args below meth c D A n0 ad0 ac0 Z ad2 ac2 H1 locs lsA hC hR ⟨fun k hk => ⟨(he k (by have := hG.2.2; omega)).trans (hG.1 k hk).1, (ha k (by have := hG.2.2; omega)).trans (hG.1 k hk).2⟩, fun h => by omega, by have := hG.2.2; simp; omega⟩ ⟨hP, hD, (hH.2.2.1.grow ha).app (fun t' ht => by cases ht; rw [hq2]; exact hK1.2 0 _ rfl), hS⟩ (hL.grow he hclo.1)
  rw [List.map_cons, clo_vs he hclo.2.1] at this
  show W _ _ _ _ _ _ _ _ _ _ _ _ _ _ _ (F0 m (pc + 2) lsA (.ref q :: _))
  rw [← hq]
  exact this
theorem V_newq {C : String} {t N idx : Nat} {x : Int32} (hd : decode K.2.1 pc = .ok (.anewarray idx, 3)) (hcl : Cond.classLink K.1.cls idx C ∈ lw_tbl) (hov : Cond.arrayOver (.object C) ∈ lw_tbl) (hwk : wk (.arrayOver (.object C)) = true) (hty : FieldType.object C = tyT t) (hn : ¬ x < 0) (hN : x.toNatClampNeg = N) (hby : N * 4 ≤ 536870912) (hce : cel + 1 ≤ K.2.2.2.2.1.cells) (hsl : slo + N ≤ K.2.2.2.2.1.slots) (hclo : clo (16 + ws.length) ls st ws = true)
    (k : V K (pc + 3) ls (.ref (16 + ws.length) :: st) (ws ++ [ra t (List.replicate N none)]) (cel + 1) (slo + N) Q) : V K pc ls (.int x :: st) ws cel slo Q := by
  intro p l e s m args below meth c D A n0 ad0 ac0 Z ad ac H locs lsA hC hR hG hH hL
  obtain ⟨hx, hb, hml, hret, hlk, hown, hnm, hT, hKn, hA, hX, hScr⟩ := id hC
  simp only [clo, Bool.and_eq_true] at hclo
  refine va_newq (D := D) (cl := clsL) (tys := []) (ws := cW ad ac ws) hx hb hown (hT _ hcl (wk_cl _ _ _) _) (hT _ hov hwk _) ⟨hKn, fun k q h => by simp at h⟩ hH.1 hH.2.1 hH.2.2.2 hA hn hN hby hce hsl hd (fun q cA H1 hK1 hP hD hS => ?_)
  let ad2 : Nat → Nat := fun k => if k < 16 + ws.length then ad k else q
  let ac2 : Nat → ClassId := fun k => if k < 16 + ws.length then ac k else cA
  have he : ∀ k, k < 16 + ws.length → ad2 k = ad k := fun k hk => if_pos hk
  have ha : ∀ k, k < 16 + ws.length → ac2 k = ac k := fun k hk => if_pos hk
  have hq : ad2 (16 + ws.length) = q := if_neg (by omega)
  have hq2 : ac2 (16 + ws.length) = cA := if_neg (by omega)
  have e1 : cW ad ac ws ++ [(q, .inl (cA, (N, .inr (.inr (.inr (.inr (fun _ => none)))))))] = cW ad2 ac2 (ws ++ [ra t (List.replicate N none)]) := by
    have e0 : (fun i => ((List.replicate N (none : Option Nat)).getD i none).map ad2) = fun _ => none := by
      funext i
      simp only [List.getD_eq_getElem?_getD, List.getElem?_replicate]
      split <;> rfl
    have e2 : ce ad2 cA (ra t (List.replicate N none)) = Sum.inl (cA, (N, .inr (.inr (.inr (.inr (fun _ => none)))))) := by
      show Sum.inl (cA, ((List.replicate N (none : Option Nat)).length, _)) = _
      rw [e0, List.length_replicate]
    rw [cW_app, hq, hq2, e2, clo_w (Nat.le_refl _) he ha hclo.2.2]
  rw [e1] at hP hD
  have := k p l e s m args below meth c D A n0 ad0 ac0 Z ad2 ac2 H1 locs lsA hC hR ⟨fun k hk => ⟨(he k (by have := hG.2.2; omega)).trans (hG.1 k hk).1, (ha k (by have := hG.2.2; omega)).trans (hG.1 k hk).2⟩, fun h => by omega, by have := hG.2.2; simp; omega⟩ ⟨hP, hD, (hH.2.2.1.grow ha).app (fun t' ht => by cases ht; rw [hq2, ← hty]; exact hK1.2 0 _ rfl), hS⟩ (hL.grow he hclo.1)
  rw [List.map_cons, clo_vs he hclo.2.1] at this
  show W _ _ _ _ _ _ _ _ _ _ _ _ _ _ _ (F0 m (pc + 3) lsA (.ref q :: _))
  rw [← hq]
  exact this
end Alloc
