/-- a method that the class above has from the class above it -/
theorem Site_SU2 {K K2 : Kt} {pc idx n : Nat} {C : String} {x : MethodName} (hd : decode K.2.1 pc = .ok (.invokespecial idx, 3)) (hw : CwOk K K2 n) (hx0 : K2.1 = ⟨K2.1.cls, x.name, x.desc⟩) (hl : Cond.methodLink K.1.cls idx x ∈ lw_tbl) (hsm : Cond.sameMethod x.cls K2.1.cls x.name x.desc ∈ lw_tbl) (hsu : Cond.superclass K.1.cls x.cls ∈ lw_tbl) (hsu2 : Cond.superclass x.cls K2.1.cls ∈ lw_tbl) (hi : Cond.instanceMethod K2.1 ∈ lw_tbl) (hno : x.name ≠ "<init>") (hin : Cond.instantiable C 0 ∈ lw_tbl) : Site K K2 pc (some C) (n + 1) := by
  intro p l e s m args below meth c H locs cel slo lsA As rest Pc Qc free hx hb hml hown hT hsz hrc hM hbl hPc hna hr8 hc1 hc2
  obtain ⟨b, t, cellB, rfl, hcB, hoB, hclB⟩ := hrc C rfl
  obtain ⟨⟨hrc1, hrs1, hfr, hlo, hws, hcw⟩, a7, a8, a9, a10⟩ := cwB (args := args) hT hw
  obtain ⟨cC, iS, hkn⟩ := u_known (C := C) (T := fun _ => ("", "", "", false)) (N := 0) (n := 0) (args := args) (s := s) (ws := [Cond.instantiable C 0]) (fun w h => by rw [List.mem_singleton.mp h]; exact hT _ hin (wk_insb _ _) _) (fun w h => by simp [u_ws] at h) (hT _ hin (wk_insb _ _) _)
  obtain ⟨hfc, kB, hkB, -⟩ := hkn.2
  cases hfc.symm.trans hclB
  have hK : Back l K.2.2.2.2.1 p e below s args K2.1 3 8 (PreOf K.2.2.2.2.1 K2.2.2.2.2.1.cells K2.2.2.2.2.1.slots Pc) (PostOf Qc K2.2.2.2.2.1.cells K2.2.2.2.2.1.slots free) := back_of (bytes := K2.2.1) (maxL := K2.2.2.1) (ret := K2.2.2.2.1) hM hbl hrc1 hrs1 hfr hlo hws hcw (fun a' U hW => word_at hW (Or.inl (by first | rfl | simp [Cond.onTables, Cond.keeps, Cond.steady])) a8)
  obtain ⟨mk, methM, hnamed, hmethM, hstM, habM⟩ := Cond.instanceMethod_spec (hT _ hi (wk_inst _) args)
  obtain ⟨methM', cM, hmethM', -, -, -, -, -, -, hsigM⟩ := Cond.code_spec hnamed a7
  cases hmethM.symm.trans hmethM'
  obtain ⟨ps, dk, kp, hps, hdk, hkp, hsuper, -, -, hnid⟩ := Cond.superclass_spec hown (hT _ hsu (wk_sup _ _) args)
  obtain ⟨p2, k2, kp2, hp2, hk2, -, hsuper2, -, -, -⟩ := Cond.superclass_spec hps (hT _ hsu2 (wk_sup _ _) args)
  have hn : s.methodNamed? ⟨K2.1.cls, x.name, x.desc⟩ = some mk := by rw [← hx0]; exact hnamed
  have hpm : p2 = mk.cls := Option.some.inj (hp2.symm.trans (findClass_of_methodNamed hnamed))
  have hsz1 : 0 < s.vm.classes.size := Nat.lt_of_le_of_lt (Nat.zero_le _) (Array.getElem?_eq_some_iff.mp hk2).1
  have hsub : s.vm.isSubclass ps mk.cls = true := by
    obtain ⟨z, hz⟩ : ∃ z, s.vm.classes.size = z + 1 := ⟨s.vm.classes.size - 1, by omega⟩
    unfold Vm.isSubclass
    rw [hz]
    simp [Vm.isSubclassAux, hk2, hsuper2, hpm]
  have hsigx : parseMethodDescriptor K2.1.desc = some methM.sig := hsigM
  intro T hT2 X
  have hstack : (F0 m pc lsA ((Value.ref b :: t).reverse ++ rest)).stack = t.reverse ++ .ref b :: rest := revcat b t rest
  obtain ⟨vm₁, X₁, hstep₁⟩ := X.invokespecialUp hx hown (hT _ hl (wk_ml _ _ _) args) (hT _ hsm (wk_same _ _ _ _) args) hn hmethM hstM habM hno hdk hnid hps hsuper hsub (a := b) (cell := cellB) (by rw [hT2]; exact hcB)
    (fun z h => by rw [h] at hoB; cases hoB) hkB (g := F0 m pc lsA ((Value.ref b :: t).reverse ++ rest)) rfl (argsL := t) (rest := rest) (by have := a10 _ hsigx; simp at hna; omega) hstack (by rw [hb]; exact hd)
  obtain ⟨v, ⟨U', l2, c2, s2⟩, X', ⟨g', mk', t', L, e1, e2, hq, h1, hL, h2, h3⟩, hsteps⟩ := hK m meth c ⟨T.setVm vm₁, locs, cel, slo⟩ { F0 m pc lsA ((Value.ref b :: t).reverse ++ rest) with stack := rest } (.invokespecial idx) mk (Value.ref b :: t).toArray X₁ rfl (hsz.trans hml.symm) (by rw [hb]; exact hd) (lv_room hr8) (X₁.named hnamed) ⟨hc1, hc2, hPc (T.setVm vm₁) hT2 X₁.warmed⟩
  dsimp only [Pt.U, Pt.locs, Pt.cells, Pt.slots] at X' e1 e2 h1 h2 h3 hsteps
  subst h1; subst h2; subst h3
  exact ⟨v, (T.setVm vm₁).calling g' mk' (Value.ref b :: t).toArray, t', U', L, hT2, X', hL, e1, e2, hq, fun target h => hstep₁ _ (by rw [doInvoke_state]; exact hsteps.trans h)⟩
/-! calls by what they return -/
def qI (Q : Int32 → Wd → Prop) : Option Value → Wd → Prop := fun r w => ∃ v, r = some (.int v) ∧ Q v w
def qL (Q : Int64 → Wd → Prop) : Option Value → Wd → Prop := fun r w => ∃ v, r = some (.long v) ∧ Q v w
def qR (Q : Nat → Wd → Prop) : Option Value → Wd → Prop := fun r w => ∃ v, r = some (.ref v) ∧ Q v w
def qV (Q : Wd → Prop) : Option Value → Wd → Prop := fun r w => r = none ∧ Q w
abbrev CallI (K : Kt) (As : List Value) (ws : Wd) (Q : Int32 → Wd → Prop) : Prop := Call K As ws (qI Q)
abbrev CallL (K : Kt) (As : List Value) (ws : Wd) (Q : Int64 → Wd → Prop) : Prop := Call K As ws (qL Q)
abbrev CallR (K : Kt) (As : List Value) (ws : Wd) (Q : Nat → Wd → Prop) : Prop := Call K As ws (qR Q)
abbrev CallV (K : Kt) (As : List Value) (ws : Wd) (Q : Wd → Prop) : Prop := Call K As ws (qV Q)
theorem Call.imp {K : Kt} {As : List Value} {ws : Wd} {Q Q1 : Option Value → Wd → Prop} (h : Call K As ws Q1) (hq : ∀ r w, Q1 r w → Q r w) : Call K As ws Q := by
  intro l D ad ac sz p e ha hc hk s m args below hf happ hP hK
  obtain ⟨n, o, h1, h2, h3, ⟨⟨r, w, ad', ac', g1, g2, g3⟩, g4⟩, h5⟩ := h l D ad ac sz p e ha hc hk s m args below hf happ hP hK
  exact ⟨n, o, h1, h2, h3, ⟨⟨r, w, ad', ac', g1, hq _ _ g2, g3⟩, g4⟩, h5⟩
theorem CallI.imp {K : Kt} {As : List Value} {ws : Wd} {Q Q1 : Int32 → Wd → Prop} (h : CallI K As ws Q1) (hq : ∀ r w, Q1 r w → Q r w) : CallI K As ws Q := Call.imp h (fun r w => by rintro ⟨v, h1, h2⟩; exact ⟨v, h1, hq _ _ h2⟩)
theorem CallL.imp {K : Kt} {As : List Value} {ws : Wd} {Q Q1 : Int64 → Wd → Prop} (h : CallL K As ws Q1) (hq : ∀ r w, Q1 r w → Q r w) : CallL K As ws Q := Call.imp h (fun r w => by rintro ⟨v, h1, h2⟩; exact ⟨v, h1, hq _ _ h2⟩)
theorem CallV.imp {K : Kt} {As : List Value} {ws : Wd} {Q Q1 : Wd → Prop} (h : CallV K As ws Q1) (hq : ∀ w, Q1 w → Q w) : CallV K As ws Q := Call.imp h (fun r w => by rintro ⟨h1, h2⟩; exact ⟨h1, hq _ h2⟩)
section Typed
variable {K K2 : Kt} {pc : Nat} {ls : List (Option Value)} {As rest : List Value} {ws : Wd} {cel slo : Nat} {Q : Option Value → Wd → Prop} {C : Option String} {na : Nat}
/-- a call of a method that makes nothing: what it asks beside the call itself -/
abbrev Sd (K K2 : Kt) (pc : Nat) (C : Option String) (na : Nat) : Prop := Site K K2 pc C na ∧ K2.2.2.2.2.1.cells = 0 ∧ K2.2.2.2.2.1.slots = 0
theorem V_ci (hS : Sd K K2 pc C na) (hrc : Rc C As ws) (hna : As.length = na) (hr8 : (rest.map fun v => v.category).sum ≤ 8) (hc : cel ≤ K.2.2.2.2.1.cells) (hs : slo ≤ K.2.2.2.2.1.slots) (hk : CallI K2 As ws (fun v ws' => V K (pc + 3) ls (.int v :: rest) ws' cel slo Q)) : V K pc ls (As.reverse ++ rest) ws cel slo Q :=
  V_call0 hS.1 hrc hna hr8 hS.2.1 hS.2.2 hc hs (Call.imp hk (fun r w => by rintro ⟨v, rfl, h⟩; exact h))
theorem V_cl (hS : Sd K K2 pc C na) (hrc : Rc C As ws) (hna : As.length = na) (hr8 : (rest.map fun v => v.category).sum ≤ 8) (hc : cel ≤ K.2.2.2.2.1.cells) (hs : slo ≤ K.2.2.2.2.1.slots) (hk : CallL K2 As ws (fun v ws' => V K (pc + 3) ls (.long v :: rest) ws' cel slo Q)) : V K pc ls (As.reverse ++ rest) ws cel slo Q :=
  V_call0 hS.1 hrc hna hr8 hS.2.1 hS.2.2 hc hs (Call.imp hk (fun r w => by rintro ⟨v, rfl, h⟩; exact h))
theorem V_cr (hS : Sd K K2 pc C na) (hrc : Rc C As ws) (hna : As.length = na) (hr8 : (rest.map fun v => v.category).sum ≤ 8) (hc : cel ≤ K.2.2.2.2.1.cells) (hs : slo ≤ K.2.2.2.2.1.slots) (hk : CallR K2 As ws (fun v ws' => V K (pc + 3) ls (.ref v :: rest) ws' cel slo Q)) : V K pc ls (As.reverse ++ rest) ws cel slo Q :=
  V_call0 hS.1 hrc hna hr8 hS.2.1 hS.2.2 hc hs (Call.imp hk (fun r w => by rintro ⟨v, rfl, h⟩; exact h))
theorem V_cv (hS : Sd K K2 pc C na) (hrc : Rc C As ws) (hna : As.length = na) (hr8 : (rest.map fun v => v.category).sum ≤ 8) (hc : cel ≤ K.2.2.2.2.1.cells) (hs : slo ≤ K.2.2.2.2.1.slots) (hk : CallV K2 As ws (fun ws' => V K (pc + 3) ls rest ws' cel slo Q)) : V K pc ls (As.reverse ++ rest) ws cel slo Q :=
  V_call0 hS.1 hrc hna hr8 hS.2.1 hS.2.2 hc hs (Call.imp hk (fun r w => by rintro ⟨rfl, h⟩; exact h))
/-! the same, in a part of the world -/
abbrev Pt2 (pl : List Nat) (sub ws : Wd) : Prop := pl.map (fun j => ws[j]?) = (sub.map (rc (rn pl ws.length))).map some
theorem V_cFi (pl : List Nat) (sub : Wd) (Bs : List Value) (hS : Sd K K2 pc C na) (hpl : Pt2 pl sub ws) (hnd : va_nd pl = true) (hAs : As = Bs.map (cv (rn pl ws.length))) (hrc : Rc C As ws) (hna : As.length = na) (hr8 : (rest.map fun v => v.category).sum ≤ 8) (hc : cel ≤ K.2.2.2.2.1.cells) (hs : slo ≤ K.2.2.2.2.1.slots) (hk : CallI K2 Bs sub (fun v sub' => V K (pc + 3) ls (.int v :: rest) (wr (rn pl ws.length) ws pl sub') cel slo Q)) : V K pc ls (As.reverse ++ rest) ws cel slo Q :=
  V_callF pl sub Bs hS.1 hpl hnd hAs hrc hna hr8 hS.2.1 hS.2.2 hc hs (Call.imp hk (fun r w => by rintro ⟨v, rfl, h⟩; exact h))
theorem V_cFl (pl : List Nat) (sub : Wd) (Bs : List Value) (hS : Sd K K2 pc C na) (hpl : Pt2 pl sub ws) (hnd : va_nd pl = true) (hAs : As = Bs.map (cv (rn pl ws.length))) (hrc : Rc C As ws) (hna : As.length = na) (hr8 : (rest.map fun v => v.category).sum ≤ 8) (hc : cel ≤ K.2.2.2.2.1.cells) (hs : slo ≤ K.2.2.2.2.1.slots) (hk : CallL K2 Bs sub (fun v sub' => V K (pc + 3) ls (.long v :: rest) (wr (rn pl ws.length) ws pl sub') cel slo Q)) : V K pc ls (As.reverse ++ rest) ws cel slo Q :=
  V_callF pl sub Bs hS.1 hpl hnd hAs hrc hna hr8 hS.2.1 hS.2.2 hc hs (Call.imp hk (fun r w => by rintro ⟨v, rfl, h⟩; exact h))
theorem V_cFv (pl : List Nat) (sub : Wd) (Bs : List Value) (hS : Sd K K2 pc C na) (hpl : Pt2 pl sub ws) (hnd : va_nd pl = true) (hAs : As = Bs.map (cv (rn pl ws.length))) (hrc : Rc C As ws) (hna : As.length = na) (hr8 : (rest.map fun v => v.category).sum ≤ 8) (hc : cel ≤ K.2.2.2.2.1.cells) (hs : slo ≤ K.2.2.2.2.1.slots) (hk : CallV K2 Bs sub (fun sub' => V K (pc + 3) ls rest (wr (rn pl ws.length) ws pl sub') cel slo Q)) : V K pc ls (As.reverse ++ rest) ws cel slo Q :=
  V_callF pl sub Bs hS.1 hpl hnd hAs hrc hna hr8 hS.2.1 hS.2.2 hc hs (Call.imp hk (fun r w => by rintro ⟨rfl, h⟩; exact h))
theorem wr_same (f : Nat → Nat) : ∀ (pl : List Nat) (sub ws : Wd), pl.map (fun j => ws[j]?) = (sub.map (rc f)).map some → wr f ws pl sub = ws
  | [], sub, ws, _ => by cases sub <;> rfl
  | j :: pl, [], ws, _ => rfl
  | j :: pl, c :: sub, ws, h => by
    simp only [List.map_cons, List.cons.injEq] at h
    have e : ws.set j (rc f c) = ws := by
      apply List.ext_getElem?
      intro i
      rw [List.getElem?_set]
      by_cases hij : j = i
      · subst hij
        rw [if_pos rfl, if_pos ((List.getElem?_eq_some_iff.mp h.1).1), h.1]
      · rw [if_neg hij]
    show wr f (ws.set j (rc f c)) pl sub = ws
    rw [e]
    exact wr_same f pl sub ws h.2
/-- in a part of the world, which stays as it is -/
theorem V_cPi (pl : List Nat) (sub : Wd) (Bs : List Value) (hS : Sd K K2 pc C na) (hpl : Pt2 pl sub ws) (hnd : va_nd pl = true) (hAs : As = Bs.map (cv (rn pl ws.length))) (hrc : Rc C As ws) (hna : As.length = na) (hr8 : (rest.map fun v => v.category).sum ≤ 8) (hc : cel ≤ K.2.2.2.2.1.cells) (hs : slo ≤ K.2.2.2.2.1.slots) (hk : CallI K2 Bs sub (fun v sub' => sub' = sub ∧ V K (pc + 3) ls (.int v :: rest) ws cel slo Q)) : V K pc ls (As.reverse ++ rest) ws cel slo Q :=
  V_cFi pl sub Bs hS hpl hnd hAs hrc hna hr8 hc hs (hk.imp (fun v w => by rintro ⟨rfl, h⟩; rw [wr_same _ pl _ ws hpl]; exact h))
theorem V_cPl (pl : List Nat) (sub : Wd) (Bs : List Value) (hS : Sd K K2 pc C na) (hpl : Pt2 pl sub ws) (hnd : va_nd pl = true) (hAs : As = Bs.map (cv (rn pl ws.length))) (hrc : Rc C As ws) (hna : As.length = na) (hr8 : (rest.map fun v => v.category).sum ≤ 8) (hc : cel ≤ K.2.2.2.2.1.cells) (hs : slo ≤ K.2.2.2.2.1.slots) (hk : CallL K2 Bs sub (fun v sub' => sub' = sub ∧ V K (pc + 3) ls (.long v :: rest) ws cel slo Q)) : V K pc ls (As.reverse ++ rest) ws cel slo Q :=
  V_cFl pl sub Bs hS hpl hnd hAs hrc hna hr8 hc hs (hk.imp (fun v w => by rintro ⟨rfl, h⟩; rw [wr_same _ pl _ ws hpl]; exact h))
/-! places by Nat -/
theorem vpn {i : Int32} {j N : Nat} (hi : i = nI j) (hj : j < N) (hN : N < 2147483648) : vp_in i N ∧ i.toNatClampNeg = j := by
  subst hi
  exact ⟨vp_in_nI hj hN, nI_clamp (by omega)⟩
end Typed
