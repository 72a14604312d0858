/-! CALLS. Site K K2 pc C n: at pc of K stands a call of K2, with n arguments (the receiver first), whose receiver must be of the class C -/
def Site (K K2 : Kt) (pc : Nat) (C : Option String) (na : Nat) : Prop :=
  ∀ (p : Program) (l : Launch) (e : Env) (s : State) (m : MethodId) (args : Array Value) (below : List Frame) (meth : Method) (c : Code) (H : Heap) (locs : List Loc) (cel slo : Nat) (lsA : Array Slot) (As rest : List Value) (Pc : Array Value → State → Prop) (Qc : Array Value → State → Outcome → State → Prop) (free : Addr → Prop),
    p.tables.exec = Jvm.exec → c.code = K.2.1 → c.maxLocals = K.2.2.1 → s.vm.findClass K.1.cls = some m.cls → Tw s → lsA.size = K.2.2.1 →
    (∀ n, C = some n → ∃ (b : Nat) (t : List Value) (cell : Cell), As = .ref b :: t ∧ H[b]? = some cell ∧ cell.vm.isStatics = false ∧ s.vm.findClass n = some cell.cls) →
    Met l K2.1 [cw K2] K2.2.2.2.2.1 Pc Qc K2.2.2.2.2.1.cells K2.2.2.2.2.1.slots free → FrameBlind Pc → (∀ U : State, U.heap = H → s.WarmedH U.vm → Pc As.toArray U) → As.length = na → (rest.map fun v => v.category).sum ≤ 8 →
    cel + K2.2.2.2.2.1.cells ≤ K.2.2.2.2.1.cells → slo + K2.2.2.2.2.1.slots ≤ K.2.2.2.2.1.slots →
    va_Run p l e K.2.2.2.2.1 s m args below meth c H locs cel slo K2.2.2.2.2.1.cells K2.2.2.2.2.1.slots (F0 m pc lsA (As.reverse ++ rest)) rest (Qc As.toArray) free
/-- what every call asks of the words and the room -/
def CwOk (K K2 : Kt) (n : Nat) : Prop := cw K2 ∈ lw_tbl ∧ Cond.initialized K2.1.cls ∈ lw_tbl ∧ (K2.1.cls ≠ "java/lang/invoke/MethodHandle" ∧ K2.1.cls ≠ "java/lang/invoke/VarHandle") ∧ (parseMethodDescriptor K2.1.desc).map (fun d => d.parameters.length) = some n ∧ K2.2.2.2.2.1.frames + 1 ≤ K.2.2.2.2.1.frames ∧ 8 + (K2.2.2.1 + 11) + K2.2.2.2.2.1.locals ≤ K.2.2.2.2.1.locals
theorem wk_code (K : Kt) : wk (cw K) = true := by simp [wk, goodWord, Cond.onTables, Cond.keeps, Cond.steady]
theorem wk_ini (C : String) : wk (.initialized C) = true := by simp [wk, goodWord, Cond.onTables, Cond.keeps, Cond.steady]
theorem wk_inst (y : MethodName) : wk (.instanceMethod y) = true := by simp [wk, goodWord, Cond.onTables, Cond.keeps, Cond.steady]
theorem wk_stat (y : MethodName) : wk (.static y) = true := by simp [wk, goodWord, Cond.onTables, Cond.keeps, Cond.steady]
theorem wk_ml (a : String) (i : Nat) (y : MethodName) : wk (.methodLink a i y) = true := by simp [wk, goodWord, Cond.onTables, Cond.keeps, Cond.steady]
theorem wk_sel (a : String) (x y : MethodName) : wk (.selects a x y) = true := by simp [wk, goodWord, Cond.onTables, Cond.keeps, Cond.steady]
theorem wk_same (a b c d : String) : wk (.sameMethod a b c d) = true := by simp [wk, goodWord, Cond.onTables, Cond.keeps, Cond.steady]
theorem wk_sup (a b : String) : wk (.superclass a b) = true := by simp [wk, goodWord, Cond.onTables, Cond.keeps, Cond.steady]
theorem wk_fl (a : String) (i : Nat) (b n d : String) : wk (.fieldLink a i b n d) = true := by simp [wk, goodWord, Cond.onTables, Cond.keeps, Cond.steady]
theorem wk_cl (a : String) (i : Nat) (b : String) : wk (.classLink a i b) = true := by simp [wk, goodWord, Cond.onTables, Cond.keeps, Cond.steady]
theorem wk_insb (a : String) (n : Nat) : wk (.instantiable a n) = true := by simp [wk, goodWord, Cond.onTables, Cond.keeps, Cond.steady]
theorem wk_nat (y : MethodName) : wk (.native y) = true := by simp [wk, goodWord, Cond.onTables, Cond.keeps, Cond.steady]
theorem wk_fn (a : String) (i : Nat) (b n d h : String) : wk (.fieldLinkNest a i b n d h) = true := by simp [wk]
theorem wk_mn (a : String) (i : Nat) (y : MethodName) (h : String) : wk (.methodLinkNest a i y h) = true := by simp [wk]
theorem wk_cast (a b : String) : wk (.castable a b) = true := by simp [wk]
theorem wk_arr (t : FieldType) : wk (.arrayClass t) = true := by simp [wk, goodWord]
section Sites
variable {K K2 : Kt} {pc idx n : Nat} {C : String}
theorem cwB {s : State} {args : Array Value} (hT : Tw s) (h : CwOk K K2 n) : (K2.2.2.2.2.1.cells = K2.2.2.2.2.1.cells ∧ K2.2.2.2.2.1.slots = K2.2.2.2.2.1.slots ∧ K2.2.2.2.2.1.frames + 1 ≤ K.2.2.2.2.1.frames ∧ 8 + (K2.2.2.1 + 11) + K2.2.2.2.2.1.locals ≤ K.2.2.2.2.1.locals ∧ (∀ w ∈ [cw K2], ∀ (a' : Array Value) (U : State), s.WarmedH U.vm → w.before a' U = true) ∧ Cond.code K2.1 K2.2.1 K2.2.2.1 K2.2.2.2.1 ∈ [cw K2]) ∧
  (Cond.code K2.1 K2.2.1 K2.2.2.1 K2.2.2.2.1).before args s = true ∧ (Cond.initialized K2.1.cls).before args s = true ∧ (K2.1.cls ≠ "java/lang/invoke/MethodHandle" ∧ K2.1.cls ≠ "java/lang/invoke/VarHandle") ∧ (∀ sig, parseMethodDescriptor K2.1.desc = some sig → n = sig.parameters.length) := by
  obtain ⟨h1, h2, h3, h4, h5, h6⟩ := h
  refine ⟨⟨rfl, rfl, h5, h6, fun w hw a' U hW => ?_, List.mem_cons_self⟩, hT _ h1 (wk_code K2) _, hT _ h2 (wk_ini _) _, h3, fun sig h => ?_⟩
  · rw [List.mem_singleton.mp hw]
    exact (hT.moved hW) _ h1 (wk_code K2) _
  · rw [h] at h4
    exact (Option.some.inj h4).symm
theorem revcat (b : Nat) (t rest : List Value) : (Value.ref b :: t).reverse ++ rest = t.reverse ++ .ref b :: rest := by simp
theorem Site_V (hd : decode K.2.1 pc = .ok (.invokevirtual idx, 3)) (hw : CwOk K K2 n) (hl : Cond.methodLink K.1.cls idx K2.1 ∈ lw_tbl) (hi : Cond.instanceMethod K2.1 ∈ lw_tbl) (hs : Cond.selects C K2.1 K2.1 ∈ lw_tbl) : Site K K2 pc (some C) (n + 1) := by
  intro p l e s m args below meth c H locs cel slo lsA As rest Pc Qc free hx hb hml ho hT hsz hrc hM hbl hPc hna hr8 hc1 hc2
  obtain ⟨b, t, cell, rfl, g1, g2, g3⟩ := hrc C rfl
  obtain ⟨⟨a1, a2, a3, a4, a5, a6⟩, a7, a8, a9, a10⟩ := cwB (args := args) hT hw
  have := va_runV (rest := rest) (g := F0 m pc lsA ((Value.ref b :: t).reverse ++ rest)) (n := n) ⟨hx, hb, hml, ho, fun w (h : w ∈ ([] : List Cond)) => by cases h⟩ hM ⟨⟨a1, a2, a3, a4, a5, a6, a7, a8, a9, a10, hT _ hl (wk_ml _ _ _) _⟩, hT _ hi (wk_inst _) _, hT _ hs (wk_sel _ _ _) _⟩ ⟨hbl, ⟨cell, g1, g2, g3⟩, hPc⟩ rfl (by simpa using hna) hsz (revcat b t rest) (lv_room hr8) hd ⟨hc1, hc2⟩ (e := e) (below := below) (meth := meth) (locs := locs)
  exact this
theorem Site_VN {host : String} (hd : decode K.2.1 pc = .ok (.invokevirtual idx, 3)) (hw : CwOk K K2 n) (hl : Cond.methodLinkNest K.1.cls idx K2.1 host ∈ lw_tbl) (hi : Cond.instanceMethod K2.1 ∈ lw_tbl) (hs : Cond.selects C K2.1 K2.1 ∈ lw_tbl) : Site K K2 pc (some C) (n + 1) := by
  intro p l e s m args below meth c H locs cel slo lsA As rest Pc Qc free hx hb hml ho hT hsz hrc hM hbl hPc hna hr8 hc1 hc2
  obtain ⟨b, t, cell, rfl, g1, g2, g3⟩ := hrc C rfl
  obtain ⟨a1, a7, a8, a9, a10⟩ := cwB (args := args) hT hw
  have := va_runVN (rest := rest) (g := F0 m pc lsA ((Value.ref b :: t).reverse ++ rest)) (n := n) ⟨hx, hb, hml, ho, fun w (h : w ∈ ([] : List Cond)) => by cases h⟩ hM ⟨⟨a1, a7, a8, a9, a10, hT _ hl (wk_mn _ _ _ _) _⟩, hT _ hi (wk_inst _) _, hT _ hs (wk_sel _ _ _) _⟩ ⟨hbl, ⟨cell, g1, g2, g3⟩, hPc⟩ rfl (by simpa using hna) hsz (revcat b t rest) (lv_room hr8) hd ⟨hc1, hc2⟩ (e := e) (below := below) (meth := meth) (locs := locs)
  exact this
theorem Site_S (hd : decode K.2.1 pc = .ok (.invokestatic idx, 3)) (hw : CwOk K K2 n) (hl : Cond.methodLink K.1.cls idx K2.1 ∈ lw_tbl) (hi : Cond.static K2.1 ∈ lw_tbl) : Site K K2 pc none n := by
  intro p l e s m args below meth c H locs cel slo lsA As rest Pc Qc free hx hb hml ho hT hsz hrc hM hbl hPc hna hr8 hc1 hc2
  obtain ⟨⟨a1, a2, a3, a4, a5, a6⟩, a7, a8, a9, a10⟩ := cwB (args := args) hT hw
  have := va_runS (rest := rest) (g := F0 m pc lsA (As.reverse ++ rest)) (n := n) ⟨hx, hb, hml, ho, fun w (h : w ∈ ([] : List Cond)) => by cases h⟩ hM ⟨⟨a1, a2, a3, a4, a5, a6, a7, a8, a9, a10, hT _ hl (wk_ml _ _ _) _⟩, hT _ hi (wk_stat _) _⟩ ⟨hbl, hPc⟩ rfl hna hsz rfl (lv_room hr8) hd ⟨hc1, hc2⟩ (e := e) (below := below) (meth := meth) (locs := locs)
  exact this
theorem Site_SN {host : String} (hd : decode K.2.1 pc = .ok (.invokestatic idx, 3)) (hw : CwOk K K2 n) (hl : Cond.methodLinkNest K.1.cls idx K2.1 host ∈ lw_tbl) (hi : Cond.static K2.1 ∈ lw_tbl) : Site K K2 pc none n := by
  intro p l e s m args below meth c H locs cel slo lsA As rest Pc Qc free hx hb hml ho hT hsz hrc hM hbl hPc hna hr8 hc1 hc2
  obtain ⟨a1, a7, a8, a9, a10⟩ := cwB (args := args) hT hw
  have := va_runSN (rest := rest) (g := F0 m pc lsA (As.reverse ++ rest)) (n := n) ⟨hx, hb, hml, ho, fun w (h : w ∈ ([] : List Cond)) => by cases h⟩ hM ⟨⟨a1, a7, a8, a9, a10, hT _ hl (wk_mn _ _ _ _) _⟩, hT _ hi (wk_stat _) _, trivial⟩ ⟨hbl, hPc⟩ rfl hna hsz rfl (lv_room hr8) hd ⟨hc1, hc2⟩ (e := e) (below := below) (meth := meth) (locs := locs)
  exact this
theorem Site_I (hd : decode K.2.1 pc = .ok (.invokespecial idx, 3)) (hw : CwOk K K2 n) (hret : K2.2.2.2.1 = none) (hl : Cond.methodLink K.1.cls idx K2.1 ∈ lw_tbl) (hi : Cond.instanceMethod K2.1 ∈ lw_tbl) (hini : K2.1.name = "<init>") (hC : K2.1.cls = C) : Site K K2 pc (some C) (n + 1) := by
  intro p l e s m args below meth c H locs cel slo lsA As rest Pc Qc free hx hb hml ho hT hsz hrc hM hbl hPc hna hr8 hc1 hc2
  obtain ⟨b, t, cell, rfl, g1, g2, g3⟩ := hrc C rfl
  obtain ⟨⟨a1, a2, a3, a4, a5, a6⟩, a7, a8, a9, a10⟩ := cwB (args := args) hT hw
  rw [hret] at a6 a7
  have := va_runI (rest := rest) (g := F0 m pc lsA ((Value.ref b :: t).reverse ++ rest)) (n := n) ⟨hx, hb, hml, ho, fun w (h : w ∈ ([] : List Cond)) => by cases h⟩ hM ⟨⟨a1, a2, a3, a4, a5, a6, a7, a8, a9, a10, hT _ hl (wk_ml _ _ _) _⟩, hini, hT _ hi (wk_inst _) _⟩ ⟨hbl, hPc⟩ rfl (by simpa using hna) hsz (revcat b t rest) (lv_room hr8) hd ⟨hc1, hc2⟩ (e := e) (below := below) (meth := meth) (locs := locs)
  exact this
theorem Site_IN {host : String} (hd : decode K.2.1 pc = .ok (.invokespecial idx, 3)) (hw : CwOk K K2 n) (hret : K2.2.2.2.1 = none) (hl : Cond.methodLinkNest K.1.cls idx K2.1 host ∈ lw_tbl) (hi : Cond.instanceMethod K2.1 ∈ lw_tbl) (hini : K2.1.name = "<init>") : Site K K2 pc (some C) (n + 1) := by
  intro p l e s m args below meth c H locs cel slo lsA As rest Pc Qc free hx hb hml ho hT hsz hrc hM hbl hPc hna hr8 hc1 hc2
  obtain ⟨b, t, cell, rfl, g1, g2, g3⟩ := hrc C rfl
  obtain ⟨⟨a1, a2, a3, a4, a5, a6⟩, a7, a8, a9, a10⟩ := cwB (args := args) hT hw
  rw [hret] at a6 a7
  have := va_runIN (rest := rest) (g := F0 m pc lsA ((Value.ref b :: t).reverse ++ rest)) (n := n) ⟨hx, hb, hml, ho, fun w (h : w ∈ ([] : List Cond)) => by cases h⟩ hM ⟨⟨⟨a1, a2, a3, a4, a5, a6⟩, a7, a8, a9, a10, hT _ hl (wk_mn _ _ _ _) _⟩, hini, hT _ hi (wk_inst _) _⟩ ⟨hbl, hPc⟩ rfl (by simpa using hna) hsz (revcat b t rest) (lv_room hr8) hd ⟨hc1, hc2⟩ (e := e) (below := below) (meth := meth) (locs := locs)
  exact this
/-- an inherited or overriding method: the reference names x, the receiver's class C has y = K2.1 -/
theorem Site_U {x : MethodName} {owner : String} {b0 : ByteArray} {m0 : Nat} {r0 : Option FieldType} (hd : decode K.2.1 pc = .ok (.invokevirtual idx, 3)) (hw : CwOk K K2 n) (hx0 : x.name = K2.1.name ∧ x.desc = K2.1.desc) (ho : owner ≠ "java/lang/invoke/MethodHandle" ∧ owner ≠ "java/lang/invoke/VarHandle") (hl : Cond.methodLink K.1.cls idx x ∈ lw_tbl) (hsm : Cond.sameMethod x.cls owner x.name x.desc ∈ lw_tbl) (h0 : Cond.code ⟨owner, x.name, x.desc⟩ b0 m0 r0 ∈ lw_tbl) (hio : Cond.instanceMethod ⟨owner, x.name, x.desc⟩ ∈ lw_tbl) (hi : Cond.instanceMethod K2.1 ∈ lw_tbl) (hs : Cond.selects C x K2.1 ∈ lw_tbl) : Site K K2 pc (some C) (n + 1) := by
  intro p l e s m args below meth c H locs cel slo lsA As rest Pc Qc free hx hb hml hown hT hsz hrc hM hbl hPc hna hr8 hc1 hc2
  obtain ⟨b, t, cell, rfl, g1, g2, g3⟩ := hrc C rfl
  obtain ⟨a1, a7, a8, a9, a10⟩ := cwB (args := args) hT hw
  have k0 : wk (Cond.code ⟨owner, x.name, x.desc⟩ b0 m0 r0) = true := by simp [wk, goodWord, Cond.onTables, Cond.keeps, Cond.steady]
  have := va_runU (rest := rest) (g := F0 m pc lsA ((Value.ref b :: t).reverse ++ rest)) (n := n) (owner := owner) (x := x) ⟨hx, hb, hml, hown, fun w (h : w ∈ ([] : List Cond)) => by cases h⟩ hM ⟨a1, a7, a8, ho, fun sig h => a10 sig (by rw [← hx0.2]; exact h), hT _ hl (wk_ml _ _ _) _, hT _ hsm (wk_same _ _ _ _) _, va_Decl.of (hT _ hio (wk_inst _) args) (hT _ h0 k0 args), hT _ hs (wk_sel _ _ _) _, hT _ hi (wk_inst _) _⟩ ⟨hbl, ⟨cell, g1, g2, g3⟩, hPc⟩ rfl (by simpa using hna) hsz (revcat b t rest) (lv_room hr8) hd ⟨hc1, hc2⟩ (e := e) (below := below) (meth := meth) (locs := locs)
  exact this
/-- a method of the class above -/
theorem Site_SU {ci : Nat} {q : vw_C} (hd : decode K.2.1 pc = .ok (.invokespecial idx, 3)) (hw : CwOk K K2 n) (hl : Cond.methodLink K.1.cls idx K2.1 ∈ lw_tbl) (hsm : Cond.sameMethod K2.1.cls K2.1.cls K2.1.name K2.1.desc ∈ lw_tbl) (hsu : Cond.superclass K.1.cls K2.1.cls ∈ lw_tbl) (hi : Cond.instanceMethod K2.1 ∈ lw_tbl) (hno : K2.1.name ≠ "<init>") (hin : Cond.instantiable C 0 ∈ lw_tbl) : Site K K2 pc (some C) (n + 1) := by
  intro p l e s m args below meth c H locs cel slo lsA As rest Pc Qc free hx hb hml hown hT hsz hrc hM hbl hPc hna hr8 hc1 hc2
  obtain ⟨b, t, cell, rfl, g1, g2, g3⟩ := hrc C rfl
  obtain ⟨a1, a7, a8, a9, a10⟩ := cwB (args := args) hT hw
  obtain ⟨cC, iS, hkn⟩ := u_known (C := C) (T := fun _ => ("", "", "", false)) (N := 0) (n := 0) (args := args) (s := s) (ws := [Cond.instantiable C 0]) (fun w h => by rw [List.mem_singleton.mp h]; exact hT _ hin (wk_insb _ _) _) (fun w h => by simp [u_ws] at h) (hT _ hin (wk_insb _ _) _)
  have := va_runSU (rest := rest) (g := F0 m pc lsA ((Value.ref b :: t).reverse ++ rest)) (n := n) (C := C) hkn.2 ⟨hx, hb, hml, hown, fun w (h : w ∈ ([] : List Cond)) => by cases h⟩ hM ⟨a1, hT _ hl (wk_ml _ _ _) _, hT _ hsm (wk_same _ _ _ _) _, hT _ hsu (wk_sup _ _) _, hT _ hi (wk_inst _) _, a8, a7, hno, a10⟩ ⟨hbl, ⟨cell, g1, g2, g3⟩, hPc⟩ rfl (by simpa using hna) hsz (revcat b t rest) (lv_room hr8) hd ⟨hc1, hc2⟩ (e := e) (below := below) (meth := meth) (locs := locs)
  exact this
end Sites
