abbrev clsL : List vw_C := [(RX0, TX0, 6), (RX1, TX1, 16), (RX2, TX2, 0), (RX3, TX3, 5), (RX4, TX4, 0), (RX5, TX5, 0), (RX6, TX6, 7), (RX7, TX7, 0), (RX8, TX8, 0), (RX9, TX9, 0), (RX10, TX10, 7), (RX11, TX11, 13)]
/-! cells of a world: an array of numbers (tag of its type, length, contents), a row of references, an object. References are numbers: below 16 what lies outside, 16 + i the world's cell i -/
abbrev Cel : Type := (Nat × Nat × (Nat → Int32)) ⊕ ((Nat × List (Option Nat)) ⊕ (Nat × List Value))
abbrev Wd : Type := List Cel
abbrev ia (t N : Nat) (f : Nat → Int32) : Cel := .inl (t, N, f)
abbrev ra (t : Nat) (fs : List (Option Nat)) : Cel := .inr (.inl (t, fs))
abbrev ob (ci : Nat) (fs : List Value) : Cel := .inr (.inr (ci, fs))
def tyT : Nat → FieldType := fun t => match t with
  | 0 => .int
  | 1 => .byte
  | 2 => .boolean
  | 3 => .object "CandleHouse$Plain"
  | _ => .object "CandleHouse$Chamber"
def cv (ad : Nat → Nat) (v : Value) : Value := match v with
  | .ref k => .ref (ad k)
  | w => w
def ce (ad : Nat → Nat) (cA : ClassId) (c : Cel) : va_E := match c with
  | .inl (_, N, f) => .inl (cA, (N, .inl f))
  | .inr (.inl (_, fs)) => .inl (cA, (fs.length, .inr (.inr (.inr (.inr (fun i => (fs.getD i none).map ad))))))
  | .inr (.inr (ci, fs)) => .inr (ci, fs.map (cv ad))
def ctag (c : Cel) : Option Nat := match c with
  | .inl (t, _, _) => some t
  | .inr (.inl (t, _)) => some t
  | .inr (.inr _) => none
def cW (ad : Nat → Nat) (ac : Nat → ClassId) (ws : Wd) : va_W := ws.mapIdx (fun i c => (ad (16 + i), ce ad (ac (16 + i)) c))
theorem cW_get (ad : Nat → Nat) (ac : Nat → ClassId) (ws : Wd) (i : Nat) : (cW ad ac ws)[i]? = (ws[i]?).map (fun c => (ad (16 + i), ce ad (ac (16 + i)) c)) := by
  simp [cW]
theorem cW_at {ad : Nat → Nat} {ac : Nat → ClassId} {ws : Wd} {i : Nat} {c : Cel} (h : ws[i]? = some c) : (cW ad ac ws)[i]? = some (ad (16 + i), ce ad (ac (16 + i)) c) := by
  rw [cW_get, h]; rfl
theorem cW_inv {ad : Nat → Nat} {ac : Nat → ClassId} {ws : Wd} {i : Nat} {q : Nat × va_E} (h : (cW ad ac ws)[i]? = some q) : ∃ c, ws[i]? = some c ∧ q = (ad (16 + i), ce ad (ac (16 + i)) c) := by
  rw [cW_get] at h
  cases hc : ws[i]? with
  | none => rw [hc] at h; cases h
  | some c => rw [hc] at h; exact ⟨c, rfl, (Option.some.inj h).symm⟩
theorem cW_set (ad : Nat → Nat) (ac : Nat → ClassId) (ws : Wd) (i : Nat) (c : Cel) : (cW ad ac ws).set i (ad (16 + i), ce ad (ac (16 + i)) c) = cW ad ac (ws.set i c) := by
  apply List.ext_getElem?
  intro j
  rw [List.getElem?_set, cW_get, cW_get, List.getElem?_set]
  have hl : (cW ad ac ws).length = ws.length := by simp [cW]
  rw [hl]
  by_cases hij : i = j
  · subst hij
    by_cases hi : i < ws.length
    · simp [hi]
    · simp [hi]
  · simp [hij]
theorem cv_cv (f g : Nat → Nat) (v : Value) : cv f (cv g v) = cv (fun k => f (g k)) v := by cases v <;> rfl
theorem cv_cat (f : Nat → Nat) (v : Value) : (cv f v).category = v.category := by cases v <;> rfl
theorem cv_id (v : Value) : cv (fun k => k) v = v := by cases v <;> rfl
theorem cats_cv (f : Nat → Nat) (l : List Value) : ((l.map (cv f)).map fun v => v.category) = l.map fun v => v.category := by
  induction l with
  | nil => rfl
  | cons a t ih => simp [cv_cat, ih]
/-! the classes of the arrays -/
def Ar (ac : Nat → ClassId) (ws : Wd) (U : State) : Prop := ∀ (i t : Nat) (c : Cel), ws[i]? = some c → ctag c = some t → ArrOfT U (ac (16 + i)) (tyT t) ∧ va_RA U (ac (16 + i)) (tyT t)
theorem Ar.moved {ac : Nat → ClassId} {ws : Wd} {u U : State} (hvm : u.vm.Alike U.vm) (h : Ar ac ws u) : Ar ac ws U := fun i t c hc ht => ⟨arrOfT_moved hvm (h i t c hc ht).1, (h i t c hc ht).2.moved hvm⟩
theorem Ar.set {ac : Nat → ClassId} {ws : Wd} {U : State} {i : Nat} {c c' : Cel} (h : Ar ac ws U) (hc : ws[i]? = some c) (ht : ctag c' = ctag c) : Ar ac (ws.set i c') U := by
  intro j t d hd hdt
  rw [List.getElem?_set] at hd
  by_cases hij : i = j
  · subst hij
    rw [if_pos rfl] at hd
    split at hd
    · cases hd
      exact h i t c hc (ht ▸ hdt)
    · cases hd
  · rw [if_neg hij] at hd
    exact h j t d hd hdt
/-! the words of the tables that a walk may use -/
def wk (w : Cond) : Bool := goodWord w || (match w with
  | .fieldLinkNest .. => true
  | .methodLinkNest .. => true
  | .castable .. => true
  | .declares .. => true
  | .arrayOver (.object _) => true
  | _ => false)
def Tw (U : State) : Prop := ∀ w ∈ lw_tbl, wk w = true → ∀ a : Array Value, w.before a U = true
theorem Tw.moved {s U : State} (hW : s.WarmedH U.vm) (h : Tw s) : Tw U := by
  intro w hw hk a
  by_cases hg : goodWord w = true
  · exact word_at hW (good_of_word hg) (h w hw hk #[])
  · have hg' : goodWord w = false := by cases hh : goodWord w <;> simp_all
    unfold wk at hk
    rw [hg'] at hk
    cases w <;> first
      | (exact va_Nw.use rfl (va_Nw.warmF hW (va_Nw.of rfl (h _ hw (by simp [wk]) #[]))))
      | (exact va_Nw.use rfl (va_Nw.warmM hW (va_Nw.of rfl (h _ hw (by simp [wk]) #[]))))
      | (exact va_Nw.use rfl (va_Nw.warmC hW (va_Nw.of rfl (h _ hw (by simp [wk]) #[]))))
      | (exact va_Nw.use rfl (va_Nw.warmD hW (va_Nw.of rfl (h _ hw (by simp [wk]) #[]))))
      | (simp at hk; done)
      | (rename_i t; cases t <;> first | (exact va_AO.use (va_AO.moved hW.alike (va_AO.of (h _ hw (by simp [wk]) #[])))) | (simp at hk))
theorem Tw.of {s : State} {A : Array Value} (h : ∀ w ∈ lw_tbl, w.before A s = true) : Tw s := by
  intro w hw hk a
  by_cases hg : goodWord w = true
  · exact word_at (State.WarmedH.refl s) (good_of_word hg) (h w hw)
  · have hg' : goodWord w = false := by cases hh : goodWord w <;> simp_all
    unfold wk at hk
    rw [hg'] at hk
    have hb := h w hw
    cases w <;> first
      | (exact va_tabs rfl rfl hb)
      | (simp at hk; done)
      | (rename_i t; cases t <;> first | (exact va_AO.use (va_AO.of hb)) | (simp at hk))
def Kn (D : va_G) (U : State) : Prop := ∀ (c : Nat) (q : vw_C), clsL[c]? = some q → u_Kn U q.1 q.2.1 q.2.2 (D.1 c) (D.2 c)
theorem Kn.moved {D : va_G} {u U : State} (hvm : u.vm.Alike U.vm) (h : Kn D u) : Kn D U := fun c q hq => u_Kn_moved hvm (h c q hq)
/-! what lies outside: 0 the law's script, 1 .. 6 the words as Strings, 7 .. 12 their bytes, 13 a static row, 14 nobody asks which -/
def wdLen : List Nat := [6, 5, 4, 4, 3, 6]
def wdByt : List (List Int32) := [[99, 97, 110, 100, 108, 101], [116, 104, 105, 99, 107], [100, 111, 111, 114], [111, 112, 101, 110], [112, 105, 110], [109, 101, 109, 98, 101, 114]]
def wdTxt : List String := ["candle", "thick", "door", "open", "pin", "member"]
def wdIx : List Nat := [119, 121, 123, 125, 127, 129]
def nbL : List Int32 := [1, 2, 1, 1, 2, 4]
abbrev sioC : String := "jdk/internal/util/Preconditions"
abbrev sioN : String := "SIOOBE_FORMATTER"
abbrev sioD : String := "Ljava/util/function/BiFunction;"
def Xs (ad : Nat → Nat) (A : Nat → Prop) (U : State) : Prop :=
  va_Z "java/lang/String" "COMPACT_STRINGS" "Z" (.int 1) A U U.heap ∧
  (va_Z sioC sioN sioD .null A U U.heap ∨ va_Z sioC sioN sioD (.ref (ad 14)) A U U.heap) ∧
  va_Z "CandleHouse$Script" "NUMBERS_BEHIND" "[I" (.ref (ad 13)) A U U.heap ∧
  va_T .int (ad 13) 6 (fun j => .int (nbL.getD j 0)) A U U.heap ∧
  vk_S 6 wdLen wdByt (fun i => ad (1 + i)) (fun i => ad (7 + i)) A U U.heap ∧
  (∀ i, i < 6 → vk_R "CandleHouse$Script" (wdIx.getD i 0) (wdTxt.getD i "") (ad (1 + i)) U)
theorem Xs.moved {ad ad' : Nat → Nat} {A B : Nat → Prop} {s U : State} (hW : s.WarmedH U.vm) (hq : ∀ a : Nat, a < s.heap.size → ¬ A a → U.heap[a]? = s.heap[a]?) (hAB : ∀ q, B q → A q) (he : ∀ k, k < 16 → ad' k = ad k) (h : Xs ad A s) : Xs ad' B U := by
  obtain ⟨h1, h2, h3, h4, h5, h6⟩ := h
  have hz : ∀ {C n d : String} {v : Value}, va_Z C n d v A s s.heap → va_Z C n d v B U U.heap := fun hz => ((va_Z.moved hW.alike hz).kept hq).narrow hAB
  refine ⟨hz h1, ?_, by rw [he 13 (by omega)]; exact hz h3, by rw [he 13 (by omega)]; exact ((va_T.moved hW.alike h4).kept hq).narrow hAB, ?_, ?_⟩
  · rcases h2 with h2 | h2
    · exact Or.inl (hz h2)
    · exact Or.inr (by rw [he 14 (by omega)]; exact hz h2)
  · have h5' := ((vk_S.moved hW.alike h5).kept hq).narrow hAB
    refine ⟨fun i hi => ?_, fun i j hi hj e => h5'.2 i j hi hj (by show ad (1 + i) = ad (1 + j); rw [← he (1 + i) (by omega), ← he (1 + j) (by omega)]; exact e)⟩
    have := h5'.1 i hi
    dsimp only at this ⊢
    rw [he (1 + i) (by omega), he (7 + i) (by omega)]
    exact this
  · intro i hi
    rw [he (1 + i) (by omega)]
    exact (h6 i hi).warm hW
/-- a method: name, bytes, how many locals, what it returns, its room, the law's script -/
abbrev Kt : Type := MethodName × ByteArray × Nat × Option FieldType × Room × Option (Nat × (Nat → Int32))
abbrev cw (K : Kt) : Cond := .code K.1 K.2.1 K.2.2.1 K.2.2.2.1
def Cx (K : Kt) (p : Program) (s : State) (m : MethodId) (meth : Method) (c : Code) (D : va_G) (A : Nat → Prop) (ad0 : Nat → Nat) : Prop :=
  p.tables.exec = Jvm.exec ∧ c.code = K.2.1 ∧ c.maxLocals = K.2.2.1 ∧ meth.sig.returnType = K.2.2.2.1 ∧ meth.locks = false ∧ s.vm.findClass K.1.cls = some m.cls ∧ meth.name = K.1.name ∧ Tw s ∧ Kn D s ∧ (∀ q, s.heap.size ≤ q → A q) ∧ Xs ad0 A s ∧ (∀ L xs, K.2.2.2.2.2 = some (L, xs) → va_X (ad0 0) L xs s s.heap ∧ ad0 0 < s.heap.size ∧ ¬ A (ad0 0))
/-- the world, held by the heap -/
def Hs (D : va_G) (A : Nat → Prop) (s : State) (ad : Nat → Nat) (ac : Nat → ClassId) (ws : Wd) (H : Heap) (locs : List Loc) : Prop :=
  va_P D clsL (cW ad ac ws) H ∧ va_D A (cW ad ac ws) ∧ Ar ac ws s ∧ va_S A s.heap H locs
/-- what has come of the start's numbers -/
def Gr (R : Room) (n0 : Nat) (ad0 ad : Nat → Nat) (ac0 ac : Nat → ClassId) (ws : Wd) : Prop :=
  (∀ k, k < 16 + n0 → ad k = ad0 k ∧ ac k = ac0 k) ∧ (R.cells = 0 → ad = ad0 ∧ ac = ac0 ∧ ws.length = n0) ∧ n0 ≤ ws.length
def Lh (lsA : Array Slot) (n : Nat) (ad : Nat → Nat) (ls : List (Option Value)) : Prop := lsA.size = n ∧ lv_wf lsA ∧ ∀ (i : Nat) (v : Value), ls[i]? = some (some v) → lsA[i]? = some (.val (cv ad v))
def Rt (K : Kt) (p : Program) (l : Launch) (e : Env) (s : State) (m : MethodId) (args : Array Value) (below : List Frame) (meth : Method) (c : Code) (D : va_G) (A : Nat → Prop) (n0 : Nat) (ad0 : Nat → Nat) (ac0 : Nat → ClassId) (Z : State → Prop) (Q : Option Value → Wd → Prop) : Prop :=
  ∀ (H : Heap) (locs : List Loc) (lsA : Array Slot) (pc cel slo : Nat) (ad : Nat → Nat) (ac : Nat → ClassId) (ws : Wd), Hs D A s ad ac ws H locs → Gr K.2.2.2.2.1 n0 ad0 ad ac0 ac ws → cel ≤ K.2.2.2.2.1.cells → slo ≤ K.2.2.2.2.1.slots →
    (K.2.2.2.1 = none → decode K.2.1 pc = .ok (.return_, 1) → Q none ws → W p l e K.2.2.2.2.1 s m args below meth c H locs cel slo Z (F0 m pc lsA [])) ∧
    (∀ (v : Int32) (ty : FieldType), K.2.2.2.1 = some ty → narrow ty (.int v) = .int v → decode K.2.1 pc = .ok (.ireturn, 1) → Q (some (.int v)) ws → W p l e K.2.2.2.2.1 s m args below meth c H locs cel slo Z (F0 m pc lsA [.int v])) ∧
    (∀ (v : Int64), K.2.2.2.1 = some .long → decode K.2.1 pc = .ok (.lreturn, 1) → Q (some (.long v)) ws → W p l e K.2.2.2.2.1 s m args below meth c H locs cel slo Z (F0 m pc lsA [.long v])) ∧
    (∀ (k : Nat) (rt : FieldType), K.2.2.2.1 = some rt → ((∃ n, rt = .object n) ∨ ∃ t, rt = .array t) → decode K.2.1 pc = .ok (.areturn, 1) → Q (some (.ref k)) ws → W p l e K.2.2.2.2.1 s m args below meth c H locs cel slo Z (F0 m pc lsA [.ref (ad k)]))
/-- THE JUDGEMENT: method K, at pc, with these locals, this stack, this world, so many cells and slots made: comes to its end, with Q of what it answers and the world then -/
def V (K : Kt) (pc : Nat) (ls : List (Option Value)) (st : List Value) (ws : Wd) (cel slo : Nat) (Q : Option Value → Wd → Prop) : Prop :=
  ∀ (p : Program) (l : Launch) (e : Env) (s : State) (m : MethodId) (args : Array Value) (below : List Frame) (meth : Method) (c : Code) (D : va_G) (A : Nat → Prop) (n0 : Nat) (ad0 : Nat → Nat) (ac0 : Nat → ClassId) (Z : State → Prop) (ad : Nat → Nat) (ac : Nat → ClassId) (H : Heap) (locs : List Loc) (lsA : Array Slot),
    Cx K p s m meth c D A ad0 → Rt K p l e s m args below meth c D A n0 ad0 ac0 Z Q → Gr K.2.2.2.2.1 n0 ad0 ad ac0 ac ws → Hs D A s ad ac ws H locs → Lh lsA K.2.2.1 ad ls →
    W p l e K.2.2.2.2.1 s m args below meth c H locs cel slo Z (F0 m pc lsA (st.map (cv ad)))
def Pre (D : va_G) (ad : Nat → Nat) (ac : Nat → ClassId) (ws : Wd) (sz : Nat) (U : State) : Prop :=
  U.heap.size = sz ∧ va_P D clsL (cW ad ac ws) U.heap ∧ va_D (fun _ => True) (cW ad ac ws) ∧ Ar ac ws U ∧ Tw U ∧ Kn D U ∧ Xs ad (va_A (cW ad ac ws) sz) U
def Qg (R : Room) (Q : Option Value → Wd → Prop) (D : va_G) (ad0 : Nat → Nat) (ac0 : Nat → ClassId) (n0 : Nat) (A : Nat → Prop) : Array Value → State → Outcome → State → Prop := fun _ st oc t =>
  (∃ (r : Option Value) (ws' : Wd) (ad' : Nat → Nat) (ac' : Nat → ClassId), oc = .returned (r.map (cv ad')) ∧ Q r ws' ∧ Gr R n0 ad0 ad' ac0 ac' ws' ∧ va_P D clsL (cW ad' ac' ws') t.heap ∧ va_D A (cW ad' ac' ws') ∧ Ar ac' ws' t) ∧ va_F A st t
/-- A CALL: method K, with these arguments, in this world, returns, with Q of what it answers and the world then -/
def Call (K : Kt) (As : List Value) (ws : Wd) (Q : Option Value → Wd → Prop) : Prop :=
  ∀ (l : Launch) (D : va_G) (ad : Nat → Nat) (ac : Nat → ClassId) (sz : Nat), Met l K.1 [cw K] K.2.2.2.2.1 (va_Pc (As.map (cv ad)) (Pre D ad ac ws sz)) (Qg K.2.2.2.2.1 Q D ad ac ws.length (va_A (cW ad ac ws) sz)) K.2.2.2.2.1.cells K.2.2.2.2.1.slots (va_A (cW ad ac ws) sz)
theorem Pre.blind (av : List Value) (D : va_G) (ad : Nat → Nat) (ac : Nat → ClassId) (ws : Wd) (sz : Nat) : FrameBlind (va_Pc av (Pre D ad ac ws sz)) := by
  intro a U g mk h
  obtain ⟨h0, h1, h2, h3, h4, h5, h6, h7⟩ := h
  have hW : U.WarmedH (U.calling g mk a).vm := State.WarmedH.refl U
  exact ⟨h0, h1, h2, h3, h4.moved hW.alike, h5.moved hW, h6.moved hW.alike, h7.moved hW (fun _ _ _ => rfl) (fun _ h => h) (fun _ _ => rfl)⟩
/-! entry of a method -/
def ents : List Value → List (Option Value)
  | [] => []
  | v :: t => if v.category = 2 then some v :: none :: ents t else some v :: ents t
def mem_lz (lsA : Array Slot) (n : Nat) (l : List (Nat × Value)) (h : lv_has lsA n l) : ∀ q ∈ l, lsA[q.1]? = some (.val q.2) := h.2.2
theorem ents_args (ad : Nat → Nat) : ∀ (As : List Value) (b i : Nat) (v : Value), (ents As)[i]? = some (some v) → (b + i, cv ad v) ∈ lv_args b (As.map (cv ad))
  | [], b, i, v, h => by simp [ents] at h
  | a :: t, b, i, v, h => by
    unfold ents at h
    show (b + i, cv ad v) ∈ lv_args b (cv ad a :: t.map (cv ad))
    unfold lv_args
    by_cases hc : a.category = 2
    · rw [if_pos hc] at h
      match i, h with
      | 0, h =>
        simp at h
        subst h
        exact List.mem_cons_self
      | 1, h => simp at h
      | i + 2, h =>
        have h' : (ents t)[i]? = some (some v) := by simpa using h
        refine List.mem_cons_of_mem _ ?_
        have := ents_args ad t (b + a.category) i v h'
        rw [hc] at this
        simp only [cv_cat, hc]
        rw [show b + (i + 2) = b + 2 + i by omega]
        exact this
    · rw [if_neg hc] at h
      have hc1 : a.category = 1 := by cases a <;> first | rfl | exact absurd rfl hc
      match i, h with
      | 0, h =>
        simp at h
        subst h
        exact List.mem_cons_self
      | i + 1, h =>
        have h' : (ents t)[i]? = some (some v) := by simpa using h
        refine List.mem_cons_of_mem _ ?_
        have := ents_args ad t (b + a.category) i v h'
        rw [hc1] at this
        simp only [cv_cat, hc1]
        rw [show b + (i + 1) = b + 1 + i by omega]
        exact this
