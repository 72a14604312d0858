section Rows
variable {K : Kt} {pc : Nat} {ls : List (Option Value)} {st : List Value} {ws : Wd} {cel slo : Nat} {Q : Option Value → Wd → Prop}
/-- what a method owes is V at its entry -/
theorem Call_of {As : List Value} (hy : plainName K.1.cls = true) (hX : K.2.2.2.2.2 = none) (hn : (ents As).length ≤ K.2.2.1) (h : V K 0 (ents As ++ List.replicate (K.2.2.1 - (ents As).length) none) [] ws 0 0 Q) : Call K As ws Q := by
  intro l D ad ac sz
  refine Met.ofW (cc := K.2.1) (maxL := K.2.2.1) (ret := K.2.2.2.1) hy rfl ?_
  intro p e s m args below meth c s₁ B hml hv
  obtain ⟨rfl, hsz, hP, hD0, hAr, hT, hKn, hXs⟩ := hv
  subst hsz
  have hlocks := B.notSynchronized
  have hD := hD0.self (sz := s.heap.size)
  generalize hAe : va_A (cW ad ac ws) s.heap.size = A at hD hXs ⊢
  have hA : ∀ q : Nat, s.heap.size ≤ q → A q := fun q h => by rw [← hAe]; exact Or.inr h
  have hlen : (lg_sl (As.map (cv ad))).length ≤ K.2.2.1 := by
    refine Nat.le_trans (Nat.le_of_eq ?_) hn
    have : ∀ l : List Value, (lg_sl (l.map (cv ad))).length = (ents l).length := by
      intro l
      induction l with
      | nil => rfl
      | cons a t ih =>
        have e1 : lg_sl ((a :: t).map (cv ad)) = (if (cv ad a).category = 2 then [.val (cv ad a), .second] else [.val (cv ad a)]) ++ lg_sl (t.map (cv ad)) := rfl
        have e2 : ents (a :: t) = if a.category = 2 then some a :: none :: ents t else some a :: ents t := rfl
        rw [e1, e2, cv_cat, List.length_append, ih]
        by_cases hc : a.category = 2
        · simp [hc]; omega
        · simp [hc]; omega
    exact this As
  have hl := lv_entry (As.map (cv ad)) (n := K.2.2.1) hlen
  rw [lg_entry_eq]
  generalize (lg_sl (As.map (cv ad)) ++ List.replicate (K.2.2.1 - (lg_sl (As.map (cv ad))).length) Slot.unset).toArray = lsA at hl ⊢
  have hLh : Lh lsA K.2.2.1 ad (ents As ++ List.replicate (K.2.2.1 - (ents As).length) none) := by
    refine ⟨hl.1, hl.2.1, fun i v hi => ?_⟩
    by_cases hi2 : i < (ents As).length
    · rw [List.getElem?_append_left hi2] at hi
      have := hl.2.2 _ (ents_args ad As 0 i v hi)
      rw [Nat.zero_add] at this
      exact this
    · rw [List.getElem?_append_right (by omega), List.getElem?_replicate] at hi
      split at hi <;> cases hi
  refine h p l e s m (As.map (cv ad)).toArray below meth c D A ws.length ad ac _ ad ac s.heap [] lsA ?_ ?_ ?_ ?_ hLh
  · exact ⟨B.exec, B.bytes, hml, B.returns, hlocks, findClass_of_methodNamed B.named, (name_of_methodNamed B.named B.method).1, hT, hKn, hA, hXs, fun L xs hh => by rw [hX] at hh; cases hh⟩
  · intro H locs lsA pc cel slo ad' ac' ws' hH hG hc1 hs1
    have fin : ∀ (r : Option Value) (t : State), Q r ws' → t.heap = H → s.WarmedH t.vm → Qg K.2.2.2.2.1 Q D ad ac ws.length A (As.map (cv ad)).toArray s (.returned (r.map (cv ad'))) t := by
      intro r t hq ht hW
      exact ⟨⟨r, ws', ad', ac', rfl, hq, hG, by rw [ht]; exact hH.1, hH.2.1, hH.2.2.1.moved hW.alike⟩, hH.2.2.2.F ht⟩
    refine ⟨fun hr hd hq => ?_, fun v ty hr hn hd hq => ?_, fun v hr hd hq => ?_, fun k rt hr hrt hd hq => ?_⟩
    · refine W.widen hc1 hs1 ?_
      exact W.vret B.exec B.bytes (B.returns.trans hr) (fun t ht hW => fin none t hq ht hW) hH.2.2.2.2.2 hd
    · refine W.widen hc1 hs1 ?_
      exact W.zret B.exec B.bytes (B.returns.trans hr) hn (fun t ht hW => fin (some (.int v)) t hq ht hW) hH.2.2.2.2.2 hd
    · refine W.widen hc1 hs1 ?_
      exact W.lret B.exec B.bytes (B.returns.trans hr) (fun t ht hW => fin (some (.long v)) t hq ht hW) hH.2.2.2.2.2 hd
    · refine W.widen hc1 hs1 ?_
      exact W.aret B.exec B.bytes (B.returns.trans hr) hrt (Or.inr ⟨_, rfl⟩) (fun t ht hW => fin (some (.ref k)) t hq ht hW) hH.2.2.2.2.2 hd
  · exact ⟨fun k _ => ⟨rfl, rfl⟩, fun _ => ⟨rfl, rfl, rfl⟩, Nat.le_refl _⟩
  · exact ⟨hP, hD, hAr, va_S.rf⟩
/-! ends -/
theorem V_ret (hd : decode K.2.1 pc = .ok (.return_, 1)) (hr : K.2.2.2.1 = none) (hc : cel ≤ K.2.2.2.2.1.cells) (hs : slo ≤ K.2.2.2.2.1.slots) (hq : Q none ws) : V K pc ls [] ws cel slo Q := by
  intro p l e s m args below meth c D A n0 ad0 ac0 Z ad ac H locs lsA hC hR hG hH hL
  exact (hR H locs lsA pc cel slo ad ac ws hH hG hc hs).1 hr hd hq
theorem V_iret {v : Int32} {ty : FieldType} (hd : decode K.2.1 pc = .ok (.ireturn, 1)) (hr : K.2.2.2.1 = some ty) (hn : narrow ty (.int v) = .int v) (hc : cel ≤ K.2.2.2.2.1.cells) (hs : slo ≤ K.2.2.2.2.1.slots) (hq : Q (some (.int v)) ws) : V K pc ls [.int v] ws cel slo Q := by
  intro p l e s m args below meth c D A n0 ad0 ac0 Z ad ac H locs lsA hC hR hG hH hL
  exact (hR H locs lsA pc cel slo ad ac ws hH hG hc hs).2.1 v ty hr hn hd hq
theorem V_lret {v : Int64} (hd : decode K.2.1 pc = .ok (.lreturn, 1)) (hr : K.2.2.2.1 = some .long) (hc : cel ≤ K.2.2.2.2.1.cells) (hs : slo ≤ K.2.2.2.2.1.slots) (hq : Q (some (.long v)) ws) : V K pc ls [.long v] ws cel slo Q := by
  intro p l e s m args below meth c D A n0 ad0 ac0 Z ad ac H locs lsA hC hR hG hH hL
  exact (hR H locs lsA pc cel slo ad ac ws hH hG hc hs).2.2.1 v hr hd hq
theorem V_aret {k : Nat} {rt : FieldType} (hd : decode K.2.1 pc = .ok (.areturn, 1)) (hr : K.2.2.2.1 = some rt) (hrt : (∃ n, rt = .object n) ∨ ∃ t, rt = .array t) (hc : cel ≤ K.2.2.2.2.1.cells) (hs : slo ≤ K.2.2.2.2.1.slots) (hq : Q (some (.ref k)) ws) : V K pc ls [.ref k] ws cel slo Q := by
  intro p l e s m args below meth c D A n0 ad0 ac0 Z ad ac H locs lsA hC hR hG hH hL
  exact (hR H locs lsA pc cel slo ad ac ws hH hG hc hs).2.2.2 k rt hr hrt hd hq
/-! constants -/
theorem V_iconst {n : Int} (v : Int32) (hd : decode K.2.1 pc = .ok (.iconst n, 1)) (hv : Int32.ofInt n = v) (k : V K (pc + 1) ls (.int v :: st) ws cel slo Q) : V K pc ls st ws cel slo Q := by
  intro p l e s m args below meth c D A n0 ad0 ac0 Z ad ac H locs lsA hC hR hG hH hL
  exact lv_iconst hC.1 hC.2.1 hd hv (k p l e s m args below meth c D A n0 ad0 ac0 Z ad ac H locs lsA hC hR hG hH hL)
theorem V_bipush {n : Int} (v : Int32) (hd : decode K.2.1 pc = .ok (.bipush n, 2)) (hv : (Int8.ofInt n).toInt32 = v) (k : V K (pc + 2) ls (.int v :: st) ws cel slo Q) : V K pc ls st ws cel slo Q := by
  intro p l e s m args below meth c D A n0 ad0 ac0 Z ad ac H locs lsA hC hR hG hH hL
  exact lv_bipush hC.1 hC.2.1 hd hv (k p l e s m args below meth c D A n0 ad0 ac0 Z ad ac H locs lsA hC hR hG hH hL)
theorem V_sipush {n : Int} (v : Int32) (hd : decode K.2.1 pc = .ok (.sipush n, 3)) (hv : (Int16.ofInt n).toInt32 = v) (k : V K (pc + 3) ls (.int v :: st) ws cel slo Q) : V K pc ls st ws cel slo Q := by
  intro p l e s m args below meth c D A n0 ad0 ac0 Z ad ac H locs lsA hC hR hG hH hL
  exact lv_sipush hC.1 hC.2.1 hd hv (k p l e s m args below meth c D A n0 ad0 ac0 Z ad ac H locs lsA hC hR hG hH hL)
theorem V_lconst {n : Fin 2} (v : Int64) (hd : decode K.2.1 pc = .ok (.lconst n, 1)) (hv : Int64.ofNat (n : Nat) = v) (k : V K (pc + 1) ls (.long v :: st) ws cel slo Q) : V K pc ls st ws cel slo Q := by
  intro p l e s m args below meth c D A n0 ad0 ac0 Z ad ac H locs lsA hC hR hG hH hL
  exact lv_lconst hC.1 hC.2.1 hd hv (k p l e s m args below meth c D A n0 ad0 ac0 Z ad ac H locs lsA hC hR hG hH hL)
theorem V_ldc {idx : Nat} (v : Int32) (hd : decode K.2.1 pc = .ok (.ldc idx, 2)) (hw : Cond.constant K.1.cls idx v ∈ lw_tbl) (hk : wk (Cond.constant K.1.cls idx v) = true) (k : V K (pc + 2) ls (.int v :: st) ws cel slo Q) : V K pc ls st ws cel slo Q := by
  intro p l e s m args below meth c D A n0 ad0 ac0 Z ad ac H locs lsA hC hR hG hH hL
  exact lv_ldc hC.1 hC.2.1 hC.2.2.2.2.2.1 (hC.2.2.2.2.2.2.2.1 _ hw hk _) hd (k p l e s m args below meth c D A n0 ad0 ac0 Z ad ac H locs lsA hC hR hG hH hL)
theorem V_ldcw {idx : Nat} (v : Int32) (hd : decode K.2.1 pc = .ok (.ldc_w idx, 3)) (hw : Cond.constant K.1.cls idx v ∈ lw_tbl) (hk : wk (Cond.constant K.1.cls idx v) = true) (k : V K (pc + 3) ls (.int v :: st) ws cel slo Q) : V K pc ls st ws cel slo Q := by
  intro p l e s m args below meth c D A n0 ad0 ac0 Z ad ac H locs lsA hC hR hG hH hL
  exact lv_ldcw hC.1 hC.2.1 hC.2.2.2.2.2.1 (hC.2.2.2.2.2.2.2.1 _ hw hk _) hd (k p l e s m args below meth c D A n0 ad0 ac0 Z ad ac H locs lsA hC hR hG hH hL)
theorem V_ldc2 {idx : Nat} (v : Int64) (hd : decode K.2.1 pc = .ok (.ldc2_w idx, 3)) (hw : Cond.constantLong K.1.cls idx v ∈ lw_tbl) (hk : wk (Cond.constantLong K.1.cls idx v) = true) (k : V K (pc + 3) ls (.long v :: st) ws cel slo Q) : V K pc ls st ws cel slo Q := by
  intro p l e s m args below meth c D A n0 ad0 ac0 Z ad ac H locs lsA hC hR hG hH hL
  exact lv_ldc2 hC.1 hC.2.1 hC.2.2.2.2.2.1 (hC.2.2.2.2.2.2.2.1 _ hw hk _) hd (k p l e s m args below meth c D A n0 ad0 ac0 Z ad ac H locs lsA hC hR hG hH hL)
/-! locals -/
theorem V_iload_n {j : Fin 4} {i : Nat} {x : Int32} (hd : decode K.2.1 pc = .ok (.iload_n j, 1)) (hi : (j : Nat) = i) (hl : ls[i]? = some (some (.int x))) (k : V K (pc + 1) ls (.int x :: st) ws cel slo Q) : V K pc ls st ws cel slo Q := by
  intro p l e s m args below meth c D A n0 ad0 ac0 Z ad ac H locs lsA hC hR hG hH hL
  exact lv_iload_n hC.1 hC.2.1 hd hi (hL.2.2 _ _ hl) (k p l e s m args below meth c D A n0 ad0 ac0 Z ad ac H locs lsA hC hR hG hH hL)
theorem V_iload {i : Nat} {x : Int32} (hd : decode K.2.1 pc = .ok (.iload i, 2)) (hl : ls[i]? = some (some (.int x))) (k : V K (pc + 2) ls (.int x :: st) ws cel slo Q) : V K pc ls st ws cel slo Q := by
  intro p l e s m args below meth c D A n0 ad0 ac0 Z ad ac H locs lsA hC hR hG hH hL
  exact lv_iload hC.1 hC.2.1 hd (hL.2.2 _ _ hl) (k p l e s m args below meth c D A n0 ad0 ac0 Z ad ac H locs lsA hC hR hG hH hL)
theorem V_lload_n {j : Fin 4} {i : Nat} {x : Int64} (hd : decode K.2.1 pc = .ok (.lload_n j, 1)) (hi : (j : Nat) = i) (hl : ls[i]? = some (some (.long x))) (k : V K (pc + 1) ls (.long x :: st) ws cel slo Q) : V K pc ls st ws cel slo Q := by
  intro p l e s m args below meth c D A n0 ad0 ac0 Z ad ac H locs lsA hC hR hG hH hL
  exact lv_lload_n hC.1 hC.2.1 hd hi (hL.2.2 _ _ hl) (k p l e s m args below meth c D A n0 ad0 ac0 Z ad ac H locs lsA hC hR hG hH hL)
theorem V_lload {i : Nat} {x : Int64} (hd : decode K.2.1 pc = .ok (.lload i, 2)) (hl : ls[i]? = some (some (.long x))) (k : V K (pc + 2) ls (.long x :: st) ws cel slo Q) : V K pc ls st ws cel slo Q := by
  intro p l e s m args below meth c D A n0 ad0 ac0 Z ad ac H locs lsA hC hR hG hH hL
  exact lv_lload hC.1 hC.2.1 hd (hL.2.2 _ _ hl) (k p l e s m args below meth c D A n0 ad0 ac0 Z ad ac H locs lsA hC hR hG hH hL)
theorem V_aload_n {j : Fin 4} {i : Nat} {x : Nat} (hd : decode K.2.1 pc = .ok (.aload_n j, 1)) (hi : (j : Nat) = i) (hl : ls[i]? = some (some (.ref x))) (k : V K (pc + 1) ls (.ref x :: st) ws cel slo Q) : V K pc ls st ws cel slo Q := by
  intro p l e s m args below meth c D A n0 ad0 ac0 Z ad ac H locs lsA hC hR hG hH hL
  exact lv_aload_n hC.1 hC.2.1 hd hi (hL.2.2 _ _ hl) (k p l e s m args below meth c D A n0 ad0 ac0 Z ad ac H locs lsA hC hR hG hH hL)
def c1 (o : Option Value) : Bool := match o with
  | some v => v.category == 1
  | none => true
def c1b (ls : List (Option Value)) (i : Nat) : Bool := match i with
  | 0 => true
  | j + 1 => c1 (ls.getD j none)
def lzz (ad : Nat → Nat) : Nat → List (Option Value) → List (Nat × Value)
  | _, [] => []
  | i, none :: t => lzz ad (i + 1) t
  | i, some v :: t => (i, cv ad v) :: lzz ad (i + 1) t
theorem lzz_mem (ad : Nat → Nat) : ∀ (ls : List (Option Value)) (b : Nat) (q : Nat × Value), q ∈ lzz ad b ls → ∃ i v, ls[i]? = some (some v) ∧ q = (b + i, cv ad v)
  | [], b, q, h => by simp [lzz] at h
  | none :: t, b, q, h => by
    obtain ⟨i, v, h1, h2⟩ := lzz_mem ad t (b + 1) q h
    exact ⟨i + 1, v, by simpa using h1, by rw [h2]; congr 1; omega⟩
  | some w :: t, b, q, h => by
    rcases List.mem_cons.mp h with h | h
    · exact ⟨0, w, rfl, h⟩
    · obtain ⟨i, v, h1, h2⟩ := lzz_mem ad t (b + 1) q h
      exact ⟨i + 1, v, by simpa using h1, by rw [h2]; congr 1; omega⟩
theorem lzz_in (ad : Nat → Nat) : ∀ (ls : List (Option Value)) (b i : Nat) (v : Value), ls[i]? = some (some v) → (b + i, cv ad v) ∈ lzz ad b ls
  | [], b, i, v, h => by simp at h
  | none :: t, b, i, v, h => by
    match i, h with
    | 0, h => simp at h
    | i + 1, h =>
      have := lzz_in ad t (b + 1) i v (by simpa using h)
      rw [show b + (i + 1) = b + 1 + i by omega]
      exact this
  | some w :: t, b, i, v, h => by
    match i, h with
    | 0, h => simp at h; subst h; exact List.mem_cons_self
    | i + 1, h =>
      have := lzz_in ad t (b + 1) i v (by simpa using h)
      rw [show b + (i + 1) = b + 1 + i by omega]
      exact List.mem_cons_of_mem _ this
theorem Lh.has {lsA : Array Slot} {n : Nat} {ad : Nat → Nat} {ls : List (Option Value)} (h : Lh lsA n ad ls) : lv_has lsA n (lzz ad 0 ls) := by
  refine ⟨h.1, h.2.1, fun q hq => ?_⟩
  obtain ⟨i, v, h1, rfl⟩ := lzz_mem ad ls 0 q hq
  rw [Nat.zero_add]
  exact h.2.2 i v h1
theorem Lh.put1 {ls1 : Array Slot} {n i : Nat} {ad : Nat → Nat} {ls : List (Option Value)} {x : Value} (hb : c1b ls i = true) (h : lv_has ls1 n ((i, cv ad x) :: (lzz ad 0 ls).filter (fun q => !(q.1 == i) && !(q.1 + 1 == i && q.2.category == 2)))) : Lh ls1 n ad (ls.set i (some x)) := by
  refine ⟨h.1, h.2.1, fun j v hj => ?_⟩
  rw [List.getElem?_set] at hj
  by_cases hij : i = j
  · subst hij
    rw [if_pos rfl] at hj
    split at hj
    · cases hj
      exact h.2.2 _ List.mem_cons_self
    · cases hj
  · rw [if_neg hij] at hj
    have hm := lzz_in ad ls 0 j v hj
    rw [Nat.zero_add] at hm
    refine h.2.2 (j, cv ad v) (List.mem_cons_of_mem _ (List.mem_filter.mpr ⟨hm, ?_⟩))
    have e1 : (j == i) = false := by simp; omega
    simp only [e1, cv_cat]
    by_cases h2 : j + 1 = i
    · subst h2
      have : c1 (ls.getD j none) = true := hb
      rw [List.getD_eq_getElem?_getD, hj] at this
      have h3 : v.category = 1 := by simpa [c1] using this
      simp [h3]
    · have e2 : (j + 1 == i) = false := by simp [h2]
      simp [e2]
theorem Lh.put2 {ls1 : Array Slot} {n i : Nat} {ad : Nat → Nat} {ls : List (Option Value)} {x : Value} (hb : c1b ls i = true) (h : lv_has ls1 n ((i, cv ad x) :: (lzz ad 0 ls).filter (fun q => !(q.1 == i) && (!(q.1 == i + 1) && !(q.1 + 1 == i && q.2.category == 2))))) : Lh ls1 n ad ((ls.set i (some x)).set (i + 1) none) := by
  refine ⟨h.1, h.2.1, fun j v hj => ?_⟩
  rw [List.getElem?_set] at hj
  by_cases hij1 : i + 1 = j
  · rw [if_pos hij1] at hj
    split at hj <;> cases hj
  rw [if_neg hij1, List.getElem?_set] at hj
  by_cases hij : i = j
  · subst hij
    rw [if_pos rfl] at hj
    split at hj
    · cases hj
      exact h.2.2 _ List.mem_cons_self
    · cases hj
  · rw [if_neg hij] at hj
    have hm := lzz_in ad ls 0 j v hj
    rw [Nat.zero_add] at hm
    refine h.2.2 (j, cv ad v) (List.mem_cons_of_mem _ (List.mem_filter.mpr ⟨hm, ?_⟩))
    have e1 : (j == i) = false := by simp; omega
    have e3 : (j == i + 1) = false := by simp; omega
    simp only [e1, e3, cv_cat]
    by_cases h2 : j + 1 = i
    · subst h2
      have : c1 (ls.getD j none) = true := hb
      rw [List.getD_eq_getElem?_getD, hj] at this
      have h3 : v.category = 1 := by simpa [c1] using this
      simp [h3]
    · have e2 : (j + 1 == i) = false := by simp [h2]
      simp [e2]
theorem V_istore_n {j : Fin 4} {i : Nat} {x : Int32} (hd : decode K.2.1 pc = .ok (.istore_n j, 1)) (hi : (j : Nat) = i) (hn : i < K.2.2.1) (hb : c1b ls i = true) (k : V K (pc + 1) (ls.set i (some (.int x))) st ws cel slo Q) : V K pc ls (.int x :: st) ws cel slo Q := by
  intro p l e s m args below meth c D A n0 ad0 ac0 Z ad ac H locs lsA hC hR hG hH hL
  exact lv_istore_n hC.1 hC.2.1 hd hi hL.has hn rfl (fun ls1 hl => (k p l e s m args below meth c D A n0 ad0 ac0 Z ad ac H locs ls1 hC hR hG hH (Lh.put1 hb hl)))
theorem V_istore {i : Nat} {x : Int32} (hd : decode K.2.1 pc = .ok (.istore i, 2)) (hn : i < K.2.2.1) (hb : c1b ls i = true) (k : V K (pc + 2) (ls.set i (some (.int x))) st ws cel slo Q) : V K pc ls (.int x :: st) ws cel slo Q := by
  intro p l e s m args below meth c D A n0 ad0 ac0 Z ad ac H locs lsA hC hR hG hH hL
  exact lv_istore hC.1 hC.2.1 hd hL.has hn rfl (fun ls1 hl => (k p l e s m args below meth c D A n0 ad0 ac0 Z ad ac H locs ls1 hC hR hG hH (Lh.put1 hb hl)))
theorem V_lstore_n {j : Fin 4} {i : Nat} {x : Int64} (hd : decode K.2.1 pc = .ok (.lstore_n j, 1)) (hi : (j : Nat) = i) (hn : i + 1 < K.2.2.1) (hb : c1b ls i = true) (k : V K (pc + 1) ((ls.set i (some (.long x))).set (i + 1) none) st ws cel slo Q) : V K pc ls (.long x :: st) ws cel slo Q := by
  intro p l e s m args below meth c D A n0 ad0 ac0 Z ad ac H locs lsA hC hR hG hH hL
  exact lv_lstore_n hC.1 hC.2.1 hd hi hL.has hn rfl (fun ls1 hl => (k p l e s m args below meth c D A n0 ad0 ac0 Z ad ac H locs ls1 hC hR hG hH (Lh.put2 hb hl)))
theorem V_lstore {i : Nat} {x : Int64} (hd : decode K.2.1 pc = .ok (.lstore i, 2)) (hn : i + 1 < K.2.2.1) (hb : c1b ls i = true) (k : V K (pc + 2) ((ls.set i (some (.long x))).set (i + 1) none) st ws cel slo Q) : V K pc ls (.long x :: st) ws cel slo Q := by
  intro p l e s m args below meth c D A n0 ad0 ac0 Z ad ac H locs lsA hC hR hG hH hL
  exact lv_lstore hC.1 hC.2.1 hd hL.has hn rfl (fun ls1 hl => (k p l e s m args below meth c D A n0 ad0 ac0 Z ad ac H locs ls1 hC hR hG hH (Lh.put2 hb hl)))
theorem V_astore_n {j : Fin 4} {i : Nat} {x : Nat} (hd : decode K.2.1 pc = .ok (.astore_n j, 1)) (hi : (j : Nat) = i) (hn : i < K.2.2.1) (hb : c1b ls i = true) (k : V K (pc + 1) (ls.set i (some (.ref x))) st ws cel slo Q) : V K pc ls (.ref x :: st) ws cel slo Q := by
  intro p l e s m args below meth c D A n0 ad0 ac0 Z ad ac H locs lsA hC hR hG hH hL
  exact lv_astore_n hC.1 hC.2.1 hd hi hL.has hn rfl (fun ls1 hl => (k p l e s m args below meth c D A n0 ad0 ac0 Z ad ac H locs ls1 hC hR hG hH (Lh.put1 hb hl)))
theorem V_iinc {i : Nat} {n : Int} {x : Int32} (v : Int32) (hd : decode K.2.1 pc = .ok (.iinc i n, 3)) (hl : ls[i]? = some (some (.int x))) (hv : x + Int32.ofInt n = v) (hn : i < K.2.2.1) (hb : c1b ls i = true) (k : V K (pc + 3) (ls.set i (some (.int v))) st ws cel slo Q) : V K pc ls st ws cel slo Q := by
  intro p l e s m args below meth c D A n0 ad0 ac0 Z ad ac H locs lsA hC hR hG hH hL
  have hm := lzz_in ad ls 0 i _ hl
  rw [Nat.zero_add] at hm
  obtain ⟨k1, hk1⟩ := List.getElem?_of_mem hm
  exact lv_iinc hC.1 hC.2.1 hd hL.has hk1 hv hn rfl (fun ls1 hl => (k p l e s m args below meth c D A n0 ad0 ac0 Z ad ac H locs ls1 hC hR hG hH (Lh.put1 hb hl)))
/-! stack -/
theorem V_dup {v : Value} (hd : decode K.2.1 pc = .ok (.dup, 1)) (hc : v.category = 1) (k : V K (pc + 1) ls (v :: v :: st) ws cel slo Q) : V K pc ls (v :: st) ws cel slo Q := by
  intro p l e s m args below meth c D A n0 ad0 ac0 Z ad ac H locs lsA hC hR hG hH hL
  exact lv_dup hC.1 hC.2.1 hd ((cv_cat ad v).trans hc) (k p l e s m args below meth c D A n0 ad0 ac0 Z ad ac H locs lsA hC hR hG hH hL)
theorem V_dup2 {v w : Value} (hd : decode K.2.1 pc = .ok (.dup2, 1)) (hc : v.category = 1) (hc2 : w.category = 1) (k : V K (pc + 1) ls (v :: w :: v :: w :: st) ws cel slo Q) : V K pc ls (v :: w :: st) ws cel slo Q := by
  intro p l e s m args below meth c D A n0 ad0 ac0 Z ad ac H locs lsA hC hR hG hH hL
  exact lv_dup2_11 hC.1 hC.2.1 hd ((cv_cat ad v).trans hc) ((cv_cat ad w).trans hc2) (k p l e s m args below meth c D A n0 ad0 ac0 Z ad ac H locs lsA hC hR hG hH hL)
theorem V_pop {v : Value} (hd : decode K.2.1 pc = .ok (.pop, 1)) (hc : v.category = 1) (k : V K (pc + 1) ls st ws cel slo Q) : V K pc ls (v :: st) ws cel slo Q := by
  intro p l e s m args below meth c D A n0 ad0 ac0 Z ad ac H locs lsA hC hR hG hH hL
  exact lv_pop hC.1 hC.2.1 hd ((cv_cat ad v).trans hc) (k p l e s m args below meth c D A n0 ad0 ac0 Z ad ac H locs lsA hC hR hG hH hL)
/-! numbers -/
theorem V_iadd {x y : Int32} (hd : decode K.2.1 pc = .ok (.iadd, 1)) (k : V K (pc + 1) ls (.int (x + y) :: st) ws cel slo Q) : V K pc ls (.int y :: .int x :: st) ws cel slo Q := by
  intro p l e s m args below meth c D A n0 ad0 ac0 Z ad ac H locs lsA hC hR hG hH hL
  exact lv_iadd hC.1 hC.2.1 hd (k p l e s m args below meth c D A n0 ad0 ac0 Z ad ac H locs lsA hC hR hG hH hL)
theorem V_isub {x y : Int32} (hd : decode K.2.1 pc = .ok (.isub, 1)) (k : V K (pc + 1) ls (.int (x - y) :: st) ws cel slo Q) : V K pc ls (.int y :: .int x :: st) ws cel slo Q := by
  intro p l e s m args below meth c D A n0 ad0 ac0 Z ad ac H locs lsA hC hR hG hH hL
  exact lv_isub hC.1 hC.2.1 hd (k p l e s m args below meth c D A n0 ad0 ac0 Z ad ac H locs lsA hC hR hG hH hL)
theorem V_imul {x y : Int32} (hd : decode K.2.1 pc = .ok (.imul, 1)) (k : V K (pc + 1) ls (.int (x * y) :: st) ws cel slo Q) : V K pc ls (.int y :: .int x :: st) ws cel slo Q := by
  intro p l e s m args below meth c D A n0 ad0 ac0 Z ad ac H locs lsA hC hR hG hH hL
  exact lv_imul hC.1 hC.2.1 hd (k p l e s m args below meth c D A n0 ad0 ac0 Z ad ac H locs lsA hC hR hG hH hL)
theorem V_iand {x y : Int32} (hd : decode K.2.1 pc = .ok (.iand, 1)) (k : V K (pc + 1) ls (.int (x &&& y) :: st) ws cel slo Q) : V K pc ls (.int y :: .int x :: st) ws cel slo Q := by
  intro p l e s m args below meth c D A n0 ad0 ac0 Z ad ac H locs lsA hC hR hG hH hL
  exact lv_iand hC.1 hC.2.1 hd (k p l e s m args below meth c D A n0 ad0 ac0 Z ad ac H locs lsA hC hR hG hH hL)
theorem V_ior {x y : Int32} (hd : decode K.2.1 pc = .ok (.ior, 1)) (k : V K (pc + 1) ls (.int (x ||| y) :: st) ws cel slo Q) : V K pc ls (.int y :: .int x :: st) ws cel slo Q := by
  intro p l e s m args below meth c D A n0 ad0 ac0 Z ad ac H locs lsA hC hR hG hH hL
  exact lv_ior hC.1 hC.2.1 hd (k p l e s m args below meth c D A n0 ad0 ac0 Z ad ac H locs lsA hC hR hG hH hL)
theorem V_ixor {x y : Int32} (hd : decode K.2.1 pc = .ok (.ixor, 1)) (k : V K (pc + 1) ls (.int (x ^^^ y) :: st) ws cel slo Q) : V K pc ls (.int y :: .int x :: st) ws cel slo Q := by
  intro p l e s m args below meth c D A n0 ad0 ac0 Z ad ac H locs lsA hC hR hG hH hL
  exact lv_ixor hC.1 hC.2.1 hd (k p l e s m args below meth c D A n0 ad0 ac0 Z ad ac H locs lsA hC hR hG hH hL)
theorem V_ladd {x y : Int64} (hd : decode K.2.1 pc = .ok (.ladd, 1)) (k : V K (pc + 1) ls (.long (x + y) :: st) ws cel slo Q) : V K pc ls (.long y :: .long x :: st) ws cel slo Q := by
  intro p l e s m args below meth c D A n0 ad0 ac0 Z ad ac H locs lsA hC hR hG hH hL
  exact lv_ladd hC.1 hC.2.1 hd (k p l e s m args below meth c D A n0 ad0 ac0 Z ad ac H locs lsA hC hR hG hH hL)
theorem V_lmul {x y : Int64} (hd : decode K.2.1 pc = .ok (.lmul, 1)) (k : V K (pc + 1) ls (.long (x * y) :: st) ws cel slo Q) : V K pc ls (.long y :: .long x :: st) ws cel slo Q := by
  intro p l e s m args below meth c D A n0 ad0 ac0 Z ad ac H locs lsA hC hR hG hH hL
  exact lv_lmul hC.1 hC.2.1 hd (k p l e s m args below meth c D A n0 ad0 ac0 Z ad ac H locs lsA hC hR hG hH hL)
theorem V_idiv {x y : Int32} (hd : decode K.2.1 pc = .ok (.idiv, 1)) (hne : ¬ y = 0) (k : V K (pc + 1) ls (.int (x / y) :: st) ws cel slo Q) : V K pc ls (.int y :: .int x :: st) ws cel slo Q := by
  intro p l e s m args below meth c D A n0 ad0 ac0 Z ad ac H locs lsA hC hR hG hH hL
  exact lv_idiv hC.1 hC.2.1 hd hne (k p l e s m args below meth c D A n0 ad0 ac0 Z ad ac H locs lsA hC hR hG hH hL)
theorem V_irem {x y : Int32} (hd : decode K.2.1 pc = .ok (.irem, 1)) (hne : ¬ y = 0) (k : V K (pc + 1) ls (.int (x - x / y * y) :: st) ws cel slo Q) : V K pc ls (.int y :: .int x :: st) ws cel slo Q := by
  intro p l e s m args below meth c D A n0 ad0 ac0 Z ad ac H locs lsA hC hR hG hH hL
  exact lv_irem hC.1 hC.2.1 hd hne (k p l e s m args below meth c D A n0 ad0 ac0 Z ad ac H locs lsA hC hR hG hH hL)
theorem V_ldiv {x y : Int64} (hd : decode K.2.1 pc = .ok (.ldiv, 1)) (hne : ¬ y = 0) (k : V K (pc + 1) ls (.long (x / y) :: st) ws cel slo Q) : V K pc ls (.long y :: .long x :: st) ws cel slo Q := by
  intro p l e s m args below meth c D A n0 ad0 ac0 Z ad ac H locs lsA hC hR hG hH hL
  exact lv_ldiv hC.1 hC.2.1 hd hne (k p l e s m args below meth c D A n0 ad0 ac0 Z ad ac H locs lsA hC hR hG hH hL)
theorem V_lrem {x y : Int64} (hd : decode K.2.1 pc = .ok (.lrem, 1)) (hne : ¬ y = 0) (k : V K (pc + 1) ls (.long (x - x / y * y) :: st) ws cel slo Q) : V K pc ls (.long y :: .long x :: st) ws cel slo Q := by
  intro p l e s m args below meth c D A n0 ad0 ac0 Z ad ac H locs lsA hC hR hG hH hL
  exact lv_lrem hC.1 hC.2.1 hd hne (k p l e s m args below meth c D A n0 ad0 ac0 Z ad ac H locs lsA hC hR hG hH hL)
theorem V_ishl {x y : Int32} (hd : decode K.2.1 pc = .ok (.ishl, 1)) (k : V K (pc + 1) ls (.int (x <<< (y &&& 31)) :: st) ws cel slo Q) : V K pc ls (.int y :: .int x :: st) ws cel slo Q := by
  intro p l e s m args below meth c D A n0 ad0 ac0 Z ad ac H locs lsA hC hR hG hH hL
  exact lv_ishl hC.1 hC.2.1 hd (k p l e s m args below meth c D A n0 ad0 ac0 Z ad ac H locs lsA hC hR hG hH hL)
theorem V_ishr {x y : Int32} (hd : decode K.2.1 pc = .ok (.ishr, 1)) (k : V K (pc + 1) ls (.int (x >>> (y &&& 31)) :: st) ws cel slo Q) : V K pc ls (.int y :: .int x :: st) ws cel slo Q := by
  intro p l e s m args below meth c D A n0 ad0 ac0 Z ad ac H locs lsA hC hR hG hH hL
  exact lv_ishr hC.1 hC.2.1 hd (k p l e s m args below meth c D A n0 ad0 ac0 Z ad ac H locs lsA hC hR hG hH hL)
theorem V_iushr {x y : Int32} (hd : decode K.2.1 pc = .ok (.iushr, 1)) (k : V K (pc + 1) ls (.int ((x.toUInt32 >>> (y.toUInt32 &&& Int32.toUInt32 31)).toInt32) :: st) ws cel slo Q) : V K pc ls (.int y :: .int x :: st) ws cel slo Q := by
  intro p l e s m args below meth c D A n0 ad0 ac0 Z ad ac H locs lsA hC hR hG hH hL
  exact lv_iushr hC.1 hC.2.1 hd rfl (k p l e s m args below meth c D A n0 ad0 ac0 Z ad ac H locs lsA hC hR hG hH hL)
theorem V_i2l {x : Int32} (hd : decode K.2.1 pc = .ok (.i2l, 1)) (k : V K (pc + 1) ls (.long (x.toInt64) :: st) ws cel slo Q) : V K pc ls (.int x :: st) ws cel slo Q := by
  intro p l e s m args below meth c D A n0 ad0 ac0 Z ad ac H locs lsA hC hR hG hH hL
  exact lv_i2l hC.1 hC.2.1 hd rfl (k p l e s m args below meth c D A n0 ad0 ac0 Z ad ac H locs lsA hC hR hG hH hL)
theorem V_i2b {x : Int32} (hd : decode K.2.1 pc = .ok (.i2b, 1)) (k : V K (pc + 1) ls (.int (x.toInt8.toInt32) :: st) ws cel slo Q) : V K pc ls (.int x :: st) ws cel slo Q := by
  intro p l e s m args below meth c D A n0 ad0 ac0 Z ad ac H locs lsA hC hR hG hH hL
  exact lv_i2b hC.1 hC.2.1 hd rfl (k p l e s m args below meth c D A n0 ad0 ac0 Z ad ac H locs lsA hC hR hG hH hL)
theorem V_i2c {x : Int32} (hd : decode K.2.1 pc = .ok (.i2c, 1)) (k : V K (pc + 1) ls (.int ((x.toUInt32 % 65536).toInt32) :: st) ws cel slo Q) : V K pc ls (.int x :: st) ws cel slo Q := by
  intro p l e s m args below meth c D A n0 ad0 ac0 Z ad ac H locs lsA hC hR hG hH hL
  exact lv_i2c hC.1 hC.2.1 hd rfl (k p l e s m args below meth c D A n0 ad0 ac0 Z ad ac H locs lsA hC hR hG hH hL)
theorem V_lcmp {x y : Int64} (hd : decode K.2.1 pc = .ok (.lcmp, 1)) (k : V K (pc + 1) ls (.int (lg_cmp x y) :: st) ws cel slo Q) : V K pc ls (.long y :: .long x :: st) ws cel slo Q := by
  intro p l e s m args below meth c D A n0 ad0 ac0 Z ad ac H locs lsA hC hR hG hH hL
  exact W.lcmp hC.1 hC.2.1 hd (k p l e s m args below meth c D A n0 ad0 ac0 Z ad ac H locs lsA hC hR hG hH hL)
/-! branches -/
theorem V_icmp_eq {x y : Int32} {off : Int} {tgt : Nat} (hd : decode K.2.1 pc = .ok (.if_icmp .eq off, 3)) (ht : (pc : Int) + off = (tgt : Int)) (kt : x = y → V K tgt ls st ws cel slo Q) (kf : ¬ x = y → V K (pc + 3) ls st ws cel slo Q) : V K pc ls (.int y :: .int x :: st) ws cel slo Q := by
  intro p l e s m args below meth c D A n0 ad0 ac0 Z ad ac H locs lsA hC hR hG hH hL
  exact lv_icmp_eq hC.1 hC.2.1 hd ht (fun h => (kt h p l e s m args below meth c D A n0 ad0 ac0 Z ad ac H locs lsA hC hR hG hH hL)) (fun h => (kf h p l e s m args below meth c D A n0 ad0 ac0 Z ad ac H locs lsA hC hR hG hH hL))
theorem V_if_eq {x : Int32} {off : Int} {tgt : Nat} (hd : decode K.2.1 pc = .ok (.ifCond .eq off, 3)) (ht : (pc : Int) + off = (tgt : Int)) (kt : x = 0 → V K tgt ls st ws cel slo Q) (kf : ¬ x = 0 → V K (pc + 3) ls st ws cel slo Q) : V K pc ls (.int x :: st) ws cel slo Q := by
  intro p l e s m args below meth c D A n0 ad0 ac0 Z ad ac H locs lsA hC hR hG hH hL
  exact lv_if_eq hC.1 hC.2.1 hd ht (fun h => (kt h p l e s m args below meth c D A n0 ad0 ac0 Z ad ac H locs lsA hC hR hG hH hL)) (fun h => (kf h p l e s m args below meth c D A n0 ad0 ac0 Z ad ac H locs lsA hC hR hG hH hL))
theorem V_icmp_ne {x y : Int32} {off : Int} {tgt : Nat} (hd : decode K.2.1 pc = .ok (.if_icmp .ne off, 3)) (ht : (pc : Int) + off = (tgt : Int)) (kt : ¬ x = y → V K tgt ls st ws cel slo Q) (kf : x = y → V K (pc + 3) ls st ws cel slo Q) : V K pc ls (.int y :: .int x :: st) ws cel slo Q := by
  intro p l e s m args below meth c D A n0 ad0 ac0 Z ad ac H locs lsA hC hR hG hH hL
  exact lv_icmp_ne hC.1 hC.2.1 hd ht (fun h => (kt h p l e s m args below meth c D A n0 ad0 ac0 Z ad ac H locs lsA hC hR hG hH hL)) (fun h => (kf h p l e s m args below meth c D A n0 ad0 ac0 Z ad ac H locs lsA hC hR hG hH hL))
theorem V_if_ne {x : Int32} {off : Int} {tgt : Nat} (hd : decode K.2.1 pc = .ok (.ifCond .ne off, 3)) (ht : (pc : Int) + off = (tgt : Int)) (kt : ¬ x = 0 → V K tgt ls st ws cel slo Q) (kf : x = 0 → V K (pc + 3) ls st ws cel slo Q) : V K pc ls (.int x :: st) ws cel slo Q := by
  intro p l e s m args below meth c D A n0 ad0 ac0 Z ad ac H locs lsA hC hR hG hH hL
  exact lv_if_ne hC.1 hC.2.1 hd ht (fun h => (kt h p l e s m args below meth c D A n0 ad0 ac0 Z ad ac H locs lsA hC hR hG hH hL)) (fun h => (kf h p l e s m args below meth c D A n0 ad0 ac0 Z ad ac H locs lsA hC hR hG hH hL))
theorem V_icmp_lt {x y : Int32} {off : Int} {tgt : Nat} (hd : decode K.2.1 pc = .ok (.if_icmp .lt off, 3)) (ht : (pc : Int) + off = (tgt : Int)) (kt : x < y → V K tgt ls st ws cel slo Q) (kf : ¬ x < y → V K (pc + 3) ls st ws cel slo Q) : V K pc ls (.int y :: .int x :: st) ws cel slo Q := by
  intro p l e s m args below meth c D A n0 ad0 ac0 Z ad ac H locs lsA hC hR hG hH hL
  exact lv_icmp_lt hC.1 hC.2.1 hd ht (fun h => (kt h p l e s m args below meth c D A n0 ad0 ac0 Z ad ac H locs lsA hC hR hG hH hL)) (fun h => (kf h p l e s m args below meth c D A n0 ad0 ac0 Z ad ac H locs lsA hC hR hG hH hL))
theorem V_if_lt {x : Int32} {off : Int} {tgt : Nat} (hd : decode K.2.1 pc = .ok (.ifCond .lt off, 3)) (ht : (pc : Int) + off = (tgt : Int)) (kt : x < 0 → V K tgt ls st ws cel slo Q) (kf : ¬ x < 0 → V K (pc + 3) ls st ws cel slo Q) : V K pc ls (.int x :: st) ws cel slo Q := by
  intro p l e s m args below meth c D A n0 ad0 ac0 Z ad ac H locs lsA hC hR hG hH hL
  exact lv_if_lt hC.1 hC.2.1 hd ht (fun h => (kt h p l e s m args below meth c D A n0 ad0 ac0 Z ad ac H locs lsA hC hR hG hH hL)) (fun h => (kf h p l e s m args below meth c D A n0 ad0 ac0 Z ad ac H locs lsA hC hR hG hH hL))
theorem V_icmp_ge {x y : Int32} {off : Int} {tgt : Nat} (hd : decode K.2.1 pc = .ok (.if_icmp .ge off, 3)) (ht : (pc : Int) + off = (tgt : Int)) (kt : y ≤ x → V K tgt ls st ws cel slo Q) (kf : ¬ y ≤ x → V K (pc + 3) ls st ws cel slo Q) : V K pc ls (.int y :: .int x :: st) ws cel slo Q := by
  intro p l e s m args below meth c D A n0 ad0 ac0 Z ad ac H locs lsA hC hR hG hH hL
  exact lv_icmp_ge hC.1 hC.2.1 hd ht (fun h => (kt h p l e s m args below meth c D A n0 ad0 ac0 Z ad ac H locs lsA hC hR hG hH hL)) (fun h => (kf h p l e s m args below meth c D A n0 ad0 ac0 Z ad ac H locs lsA hC hR hG hH hL))
theorem V_if_ge {x : Int32} {off : Int} {tgt : Nat} (hd : decode K.2.1 pc = .ok (.ifCond .ge off, 3)) (ht : (pc : Int) + off = (tgt : Int)) (kt : 0 ≤ x → V K tgt ls st ws cel slo Q) (kf : ¬ 0 ≤ x → V K (pc + 3) ls st ws cel slo Q) : V K pc ls (.int x :: st) ws cel slo Q := by
  intro p l e s m args below meth c D A n0 ad0 ac0 Z ad ac H locs lsA hC hR hG hH hL
  exact lv_if_ge hC.1 hC.2.1 hd ht (fun h => (kt h p l e s m args below meth c D A n0 ad0 ac0 Z ad ac H locs lsA hC hR hG hH hL)) (fun h => (kf h p l e s m args below meth c D A n0 ad0 ac0 Z ad ac H locs lsA hC hR hG hH hL))
theorem V_icmp_gt {x y : Int32} {off : Int} {tgt : Nat} (hd : decode K.2.1 pc = .ok (.if_icmp .gt off, 3)) (ht : (pc : Int) + off = (tgt : Int)) (kt : y < x → V K tgt ls st ws cel slo Q) (kf : ¬ y < x → V K (pc + 3) ls st ws cel slo Q) : V K pc ls (.int y :: .int x :: st) ws cel slo Q := by
  intro p l e s m args below meth c D A n0 ad0 ac0 Z ad ac H locs lsA hC hR hG hH hL
  exact lv_icmp_gt hC.1 hC.2.1 hd ht (fun h => (kt h p l e s m args below meth c D A n0 ad0 ac0 Z ad ac H locs lsA hC hR hG hH hL)) (fun h => (kf h p l e s m args below meth c D A n0 ad0 ac0 Z ad ac H locs lsA hC hR hG hH hL))
theorem V_if_gt {x : Int32} {off : Int} {tgt : Nat} (hd : decode K.2.1 pc = .ok (.ifCond .gt off, 3)) (ht : (pc : Int) + off = (tgt : Int)) (kt : 0 < x → V K tgt ls st ws cel slo Q) (kf : ¬ 0 < x → V K (pc + 3) ls st ws cel slo Q) : V K pc ls (.int x :: st) ws cel slo Q := by
  intro p l e s m args below meth c D A n0 ad0 ac0 Z ad ac H locs lsA hC hR hG hH hL
  exact lv_if_gt hC.1 hC.2.1 hd ht (fun h => (kt h p l e s m args below meth c D A n0 ad0 ac0 Z ad ac H locs lsA hC hR hG hH hL)) (fun h => (kf h p l e s m args below meth c D A n0 ad0 ac0 Z ad ac H locs lsA hC hR hG hH hL))
theorem V_icmp_le {x y : Int32} {off : Int} {tgt : Nat} (hd : decode K.2.1 pc = .ok (.if_icmp .le off, 3)) (ht : (pc : Int) + off = (tgt : Int)) (kt : x ≤ y → V K tgt ls st ws cel slo Q) (kf : ¬ x ≤ y → V K (pc + 3) ls st ws cel slo Q) : V K pc ls (.int y :: .int x :: st) ws cel slo Q := by
  intro p l e s m args below meth c D A n0 ad0 ac0 Z ad ac H locs lsA hC hR hG hH hL
  exact lv_icmp_le hC.1 hC.2.1 hd ht (fun h => (kt h p l e s m args below meth c D A n0 ad0 ac0 Z ad ac H locs lsA hC hR hG hH hL)) (fun h => (kf h p l e s m args below meth c D A n0 ad0 ac0 Z ad ac H locs lsA hC hR hG hH hL))
theorem V_if_le {x : Int32} {off : Int} {tgt : Nat} (hd : decode K.2.1 pc = .ok (.ifCond .le off, 3)) (ht : (pc : Int) + off = (tgt : Int)) (kt : x ≤ 0 → V K tgt ls st ws cel slo Q) (kf : ¬ x ≤ 0 → V K (pc + 3) ls st ws cel slo Q) : V K pc ls (.int x :: st) ws cel slo Q := by
  intro p l e s m args below meth c D A n0 ad0 ac0 Z ad ac H locs lsA hC hR hG hH hL
  exact lv_if_le hC.1 hC.2.1 hd ht (fun h => (kt h p l e s m args below meth c D A n0 ad0 ac0 Z ad ac H locs lsA hC hR hG hH hL)) (fun h => (kf h p l e s m args below meth c D A n0 ad0 ac0 Z ad ac H locs lsA hC hR hG hH hL))
theorem V_goto {off : Int} {tgt : Nat} (hd : decode K.2.1 pc = .ok (.goto off, 3)) (ht : (pc : Int) + off = (tgt : Int)) (k : V K tgt ls st ws cel slo Q) : V K pc ls st ws cel slo Q := by
  intro p l e s m args below meth c D A n0 ad0 ac0 Z ad ac H locs lsA hC hR hG hH hL
  exact lv_goto hC.1 hC.2.1 hd ht (k p l e s m args below meth c D A n0 ad0 ac0 Z ad ac H locs lsA hC hR hG hH hL)
theorem V_tabOut {dflt lo hi : Int} {offs : Array Int} {len : Nat} {x : Int32} {tgt : Nat} (hd : decode K.2.1 pc = .ok (.tableswitch dflt lo hi offs, len)) (h : x.toInt < lo ∨ hi < x.toInt) (ht : (pc : Int) + dflt = (tgt : Int)) (k : V K tgt ls st ws cel slo Q) : V K pc ls (.int x :: st) ws cel slo Q := by
  intro p l e s m args below meth c D A n0 ad0 ac0 Z ad ac H locs lsA hC hR hG hH hL
  exact lv_tableOut hC.1 hC.2.1 hd h ht (k p l e s m args below meth c D A n0 ad0 ac0 Z ad ac H locs lsA hC hR hG hH hL)
theorem V_tabIn {dflt lo hi : Int} {offs : Array Int} {len : Nat} {x : Int32} {off : Int} {tgt : Nat} (hd : decode K.2.1 pc = .ok (.tableswitch dflt lo hi offs, len)) (h1 : ¬ x.toInt < lo) (h2 : ¬ hi < x.toInt) (ho : offs[(x.toInt - lo).toNat]? = some off) (ht : (pc : Int) + off = (tgt : Int)) (k : V K tgt ls st ws cel slo Q) : V K pc ls (.int x :: st) ws cel slo Q := by
  intro p l e s m args below meth c D A n0 ad0 ac0 Z ad ac H locs lsA hC hR hG hH hL
  exact lv_tableIn hC.1 hC.2.1 hd h1 h2 ho ht (k p l e s m args below meth c D A n0 ad0 ac0 Z ad ac H locs lsA hC hR hG hH hL)
/-! fields -/
theorem V_get {C : String} {T : u_T} {N ci idx r j : Nat} {fs : List Value} {v : Value} (hd : decode K.2.1 pc = .ok (.getfield idx, 3)) (hc : clsL[ci]? = some (C, T, N)) (hin : ∀ w ∈ u_ws C T N, w ∈ lw_tbl ∧ wk w = true) (hj : j < N) (hlk : Cond.fieldLink K.1.cls idx (T j).1 (T j).2.1 (T j).2.2.1 ∈ lw_tbl) (hwk : wk (Cond.fieldLink K.1.cls idx (T j).1 (T j).2.1 (T j).2.2.1) = true) (hr : ws[r]? = some (ob ci fs)) (hv : fs[j]? = some v) (k : V K (pc + 3) ls (v :: st) ws cel slo Q) : V K pc ls (.ref (16 + r) :: st) ws cel slo Q := by
  intro p l e s m args below meth c D A n0 ad0 ac0 Z ad ac H locs lsA hC hR hG hH hL
  exact va_get (Ts := u_ws C T N) (v := cv ad v) hC.1 hC.2.1 (fun w h => hC.2.2.2.2.2.2.2.1 w (hin w h).1 (hin w h).2 _) (fun _ h => h) hC.2.2.2.2.2.1 (tys := []) ⟨hC.2.2.2.2.2.2.2.2.1, fun k q h => by simp at h⟩ hH.1 r (cW_at hr) hc j hj (hC.2.2.2.2.2.2.2.1 _ hlk hwk _) (fun _ h => h) (by rw [List.getElem?_map, hv]; rfl) hd (k p l e s m args below meth c D A n0 ad0 ac0 Z ad ac H locs lsA hC hR hG hH hL)
theorem V_getN {C : String} {T : u_T} {N ci idx r j : Nat} {fs : List Value} {v : Value} {host : String} (hd : decode K.2.1 pc = .ok (.getfield idx, 3)) (hc : clsL[ci]? = some (C, T, N)) (hin : ∀ w ∈ u_ws C T N, w ∈ lw_tbl ∧ wk w = true) (hj : j < N) (hlk : Cond.fieldLinkNest K.1.cls idx (T j).1 (T j).2.1 (T j).2.2.1 host ∈ lw_tbl) (hwk : wk (Cond.fieldLinkNest K.1.cls idx (T j).1 (T j).2.1 (T j).2.2.1 host) = true) (hr : ws[r]? = some (ob ci fs)) (hv : fs[j]? = some v) (k : V K (pc + 3) ls (v :: st) ws cel slo Q) : V K pc ls (.ref (16 + r) :: st) ws cel slo Q := by
  intro p l e s m args below meth c D A n0 ad0 ac0 Z ad ac H locs lsA hC hR hG hH hL
  exact va_getN (Ts := u_ws C T N) (v := cv ad v) hC.1 hC.2.1 (fun w h => hC.2.2.2.2.2.2.2.1 w (hin w h).1 (hin w h).2 _) (fun _ h => h) hC.2.2.2.2.2.1 (tys := []) ⟨hC.2.2.2.2.2.2.2.2.1, fun k q h => by simp at h⟩ hH.1 r (cW_at hr) hc j hj (hC.2.2.2.2.2.2.2.1 _ hlk hwk _) (fun _ h => h) (by rw [List.getElem?_map, hv]; rfl) hd (k p l e s m args below meth c D A n0 ad0 ac0 Z ad ac H locs lsA hC hR hG hH hL)
theorem V_put {C : String} {T : u_T} {N ci idx r j : Nat} {fs : List Value} {v : Value} {ty : FieldType} {ty0 : Nat → FieldType} (hd : decode K.2.1 pc = .ok (.putfield idx, 3)) (hc : clsL[ci]? = some (C, T, N)) (hin : ∀ w ∈ u_ws C T N, w ∈ lw_tbl ∧ wk w = true) (hty : ∀ k, k < N → parseFieldDescriptor (T k).2.2.1 = some (ty0 k)) (hnm : ∀ a, a < N → ∀ b, b < N → a ≠ b → (T a).2.1 ≠ (T b).2.1) (hj : j < N) (hlk : Cond.fieldLink K.1.cls idx (T j).1 (T j).2.1 (T j).2.2.1 ∈ lw_tbl) (hwk : wk (Cond.fieldLink K.1.cls idx (T j).1 (T j).2.1 (T j).2.2.1) = true) (hfin : (T j).2.2.2 = false) (hdt : parseFieldDescriptor (T j).2.2.1 = some ty) (hn : ∀ ad : Nat → Nat, narrow ty (cv ad v) = cv ad v) (hft : ∀ ad : Nat → Nat, fits ty (cv ad v) = true) (hr : ws[r]? = some (ob ci fs)) (hl : j < fs.length) (k : V K (pc + 3) ls st (ws.set r (ob ci (fs.set j v))) cel slo Q) : V K pc ls (v :: .ref (16 + r) :: st) ws cel slo Q := by
  intro p l e s m args below meth c D A n0 ad0 ac0 Z ad ac H locs lsA hC hR hG hH hL
  refine va_put (Ts := u_ws C T N) (v := cv ad v) hC.1 hC.2.1 (fun w h => hC.2.2.2.2.2.2.2.1 w (hin w h).1 (hin w h).2 _) (fun _ h => h) ty0 hty hnm hC.2.2.2.2.2.1 (tys := []) ⟨hC.2.2.2.2.2.2.2.2.1, fun k q h => by simp at h⟩ hH.1 hH.2.1 hH.2.2.2 r (cW_at hr) hc j hj (hC.2.2.2.2.2.2.2.1 _ hlk hwk _) (fun _ h => h) hfin hdt (hn ad) (hft ad) (by simpa using hl) hd (fun H1 locs1 hP hD hS => ?_)
  have e1 : (cW ad ac ws).set r (ad (16 + r), .inr (ci, (fs.map (cv ad)).set j (cv ad v))) = cW ad ac (ws.set r (ob ci (fs.set j v))) := by
    rw [← cW_set, ← List.map_set]; rfl
  rw [e1] at hP hD
  exact k p l e s m args below meth c D A n0 ad0 ac0 Z ad ac H1 locs1 lsA hC hR ⟨hG.1, fun h => by have := hG.2.1 h; simpa using this, by simpa using hG.2.2⟩ ⟨hP, hD, hH.2.2.1.set hr rfl, hS⟩ hL
theorem V_putN {C : String} {T : u_T} {N ci idx r j : Nat} {fs : List Value} {v : Value} {ty : FieldType} {ty0 : Nat → FieldType} {host : String} (hd : decode K.2.1 pc = .ok (.putfield idx, 3)) (hc : clsL[ci]? = some (C, T, N)) (hin : ∀ w ∈ u_ws C T N, w ∈ lw_tbl ∧ wk w = true) (hty : ∀ k, k < N → parseFieldDescriptor (T k).2.2.1 = some (ty0 k)) (hnm : ∀ a, a < N → ∀ b, b < N → a ≠ b → (T a).2.1 ≠ (T b).2.1) (hj : j < N) (hlk : Cond.fieldLinkNest K.1.cls idx (T j).1 (T j).2.1 (T j).2.2.1 host ∈ lw_tbl) (hwk : wk (Cond.fieldLinkNest K.1.cls idx (T j).1 (T j).2.1 (T j).2.2.1 host) = true) (hfin : (T j).2.2.2 = false) (hdt : parseFieldDescriptor (T j).2.2.1 = some ty) (hn : ∀ ad : Nat → Nat, narrow ty (cv ad v) = cv ad v) (hft : ∀ ad : Nat → Nat, fits ty (cv ad v) = true) (hr : ws[r]? = some (ob ci fs)) (hl : j < fs.length) (k : V K (pc + 3) ls st (ws.set r (ob ci (fs.set j v))) cel slo Q) : V K pc ls (v :: .ref (16 + r) :: st) ws cel slo Q := by
  intro p l e s m args below meth c D A n0 ad0 ac0 Z ad ac H locs lsA hC hR hG hH hL
  refine va_putN (Ts := u_ws C T N) (v := cv ad v) hC.1 hC.2.1 (fun w h => hC.2.2.2.2.2.2.2.1 w (hin w h).1 (hin w h).2 _) (fun _ h => h) ty0 hty hnm hC.2.2.2.2.2.1 (tys := []) ⟨hC.2.2.2.2.2.2.2.2.1, fun k q h => by simp at h⟩ hH.1 hH.2.1 hH.2.2.2 r (cW_at hr) hc j hj (hC.2.2.2.2.2.2.2.1 _ hlk hwk _) (fun _ h => h) hfin hdt (hn ad) (hft ad) (by simpa using hl) hd (fun H1 locs1 hP hD hS => ?_)
  have e1 : (cW ad ac ws).set r (ad (16 + r), .inr (ci, (fs.map (cv ad)).set j (cv ad v))) = cW ad ac (ws.set r (ob ci (fs.set j v))) := by
    rw [← cW_set, ← List.map_set]; rfl
  rw [e1] at hP hD
  exact k p l e s m args below meth c D A n0 ad0 ac0 Z ad ac H1 locs1 lsA hC hR ⟨hG.1, fun h => by have := hG.2.1 h; simpa using this, by simpa using hG.2.2⟩ ⟨hP, hD, hH.2.2.1.set hr rfl, hS⟩ hL
theorem V_putF {C : String} {T : u_T} {N ci idx r j : Nat} {fs : List Value} {v : Value} {ty : FieldType} {ty0 : Nat → FieldType} (hd : decode K.2.1 pc = .ok (.putfield idx, 3)) (hc : clsL[ci]? = some (C, T, N)) (hin : ∀ w ∈ u_ws C T N, w ∈ lw_tbl ∧ wk w = true) (hty : ∀ k, k < N → parseFieldDescriptor (T k).2.2.1 = some (ty0 k)) (hnm : ∀ a, a < N → ∀ b, b < N → a ≠ b → (T a).2.1 ≠ (T b).2.1) (hj : j < N) (hlk : Cond.fieldLink K.1.cls idx (T j).1 (T j).2.1 (T j).2.2.1 ∈ lw_tbl) (hwk : wk (Cond.fieldLink K.1.cls idx (T j).1 (T j).2.1 (T j).2.2.1) = true) (hfin : (T j).2.2.2 = true) (hini : K.1.name = "<init>") (hdc : (T j).1 = K.1.cls) (hdt : parseFieldDescriptor (T j).2.2.1 = some ty) (hn : ∀ ad : Nat → Nat, narrow ty (cv ad v) = cv ad v) (hft : ∀ ad : Nat → Nat, fits ty (cv ad v) = true) (hr : ws[r]? = some (ob ci fs)) (hl : j < fs.length) (k : V K (pc + 3) ls st (ws.set r (ob ci (fs.set j v))) cel slo Q) : V K pc ls (v :: .ref (16 + r) :: st) ws cel slo Q := by
  intro p l e s m args below meth c D A n0 ad0 ac0 Z ad ac H locs lsA hC hR hG hH hL
  refine va_putF (Ts := u_ws C T N) (v := cv ad v) hC.1 hC.2.1 (fun w h => hC.2.2.2.2.2.2.2.1 w (hin w h).1 (hin w h).2 _) (fun _ h => h) ty0 hty hnm hC.2.2.2.2.2.1 (tys := []) ⟨hC.2.2.2.2.2.2.2.2.1, fun k q h => by simp at h⟩ hH.1 hH.2.1 hH.2.2.2 r (cW_at hr) hc j hj (hC.2.2.2.2.2.2.2.1 _ hlk hwk _) (fun _ h => h) hfin (hC.2.2.2.2.2.2.1.trans hini) hdc hdt (hn ad) (hft ad) (by simpa using hl) hd (fun H1 locs1 hP hD hS => ?_)
  have e1 : (cW ad ac ws).set r (ad (16 + r), .inr (ci, (fs.map (cv ad)).set j (cv ad v))) = cW ad ac (ws.set r (ob ci (fs.set j v))) := by
    rw [← cW_set, ← List.map_set]; rfl
  rw [e1] at hP hD
  exact k p l e s m args below meth c D A n0 ad0 ac0 Z ad ac H1 locs1 lsA hC hR ⟨hG.1, fun h => by have := hG.2.1 h; simpa using this, by simpa using hG.2.2⟩ ⟨hP, hD, hH.2.2.1.set hr rfl, hS⟩ hL
/-! arrays -/
theorem V_iald {r N : Nat} {f : Nat → Int32} {i : Int32} (hd : decode K.2.1 pc = .ok (.iaload, 1)) (hr : ws[r]? = some (ia 0 N f)) (hin : vp_in i N) (k : V K (pc + 1) ls (.int (f i.toNatClampNeg) :: st) ws cel slo Q) : V K pc ls (.int i :: .ref (16 + r) :: st) ws cel slo Q := by
  intro p l e s m args below meth c D A n0 ad0 ac0 Z ad ac H locs lsA hC hR hG hH hL
  exact va_iald hC.1 hC.2.1 (tys := [(ac (16 + r), tyT 0)]) ⟨hC.2.2.2.2.2.2.2.2.1, fun k q h => by cases k with | zero => (cases h; exact hH.2.2.1 r 0 _ hr rfl) | succ k => simp at h⟩ hH.1 r 0 (cW_at hr) rfl hin hd (k p l e s m args below meth c D A n0 ad0 ac0 Z ad ac H locs lsA hC hR hG hH hL)
theorem V_bald {r N : Nat} {f : Nat → Int32} {i : Int32} (hd : decode K.2.1 pc = .ok (.baload, 1)) (hr : ws[r]? = some (ia 1 N f)) (hin : vp_in i N) (k : V K (pc + 1) ls (.int (f i.toNatClampNeg) :: st) ws cel slo Q) : V K pc ls (.int i :: .ref (16 + r) :: st) ws cel slo Q := by
  intro p l e s m args below meth c D A n0 ad0 ac0 Z ad ac H locs lsA hC hR hG hH hL
  exact va_bald hC.1 hC.2.1 (tys := [(ac (16 + r), tyT 1)]) ⟨hC.2.2.2.2.2.2.2.2.1, fun k q h => by cases k with | zero => (cases h; exact hH.2.2.1 r 1 _ hr rfl) | succ k => simp at h⟩ hH.1 r 0 (cW_at hr) rfl hin hd (k p l e s m args below meth c D A n0 ad0 ac0 Z ad ac H locs lsA hC hR hG hH hL)
theorem V_zald {r N : Nat} {f : Nat → Int32} {i : Int32} (hd : decode K.2.1 pc = .ok (.baload, 1)) (hr : ws[r]? = some (ia 2 N f)) (hin : vp_in i N) (k : V K (pc + 1) ls (.int (f i.toNatClampNeg) :: st) ws cel slo Q) : V K pc ls (.int i :: .ref (16 + r) :: st) ws cel slo Q := by
  intro p l e s m args below meth c D A n0 ad0 ac0 Z ad ac H locs lsA hC hR hG hH hL
  exact va_zald hC.1 hC.2.1 (tys := [(ac (16 + r), tyT 2)]) ⟨hC.2.2.2.2.2.2.2.2.1, fun k q h => by cases k with | zero => (cases h; exact hH.2.2.1 r 2 _ hr rfl) | succ k => simp at h⟩ hH.1 r 0 (cW_at hr) rfl hin hd (k p l e s m args below meth c D A n0 ad0 ac0 Z ad ac H locs lsA hC hR hG hH hL)
theorem V_iast {r N : Nat} {f : Nat → Int32} {i x : Int32} (hd : decode K.2.1 pc = .ok (.iastore, 1)) (hr : ws[r]? = some (ia 0 N f)) (hin : vp_in i N) (k : V K (pc + 1) ls st (ws.set r (ia 0 N (upd f i.toNatClampNeg x))) cel slo Q) : V K pc ls (.int x :: .int i :: .ref (16 + r) :: st) ws cel slo Q := by
  intro p l e s m args below meth c D A n0 ad0 ac0 Z ad ac H locs lsA hC hR hG hH hL
  refine va_iast hC.1 hC.2.1 (tys := [(ac (16 + r), tyT 0)]) ⟨hC.2.2.2.2.2.2.2.2.1, fun k q h => by cases k with | zero => (cases h; exact hH.2.2.1 r 0 _ hr rfl) | succ k => simp at h⟩ hH.1 hH.2.1 hH.2.2.2 r 0 (cW_at hr) rfl hin hd (fun H1 locs1 hP hD hS => ?_)
  have e1 : (cW ad ac ws).set r (ad (16 + r), .inl (ac (16 + r), (N, .inl (upd f i.toNatClampNeg x)))) = cW ad ac (ws.set r (ia 0 N (upd f i.toNatClampNeg x))) := by
    rw [← cW_set]; rfl
  rw [e1] at hP hD
  exact k p l e s m args below meth c D A n0 ad0 ac0 Z ad ac H1 locs1 lsA hC hR ⟨hG.1, fun h => by have := hG.2.1 h; simpa using this, by simpa using hG.2.2⟩ ⟨hP, hD, hH.2.2.1.set hr rfl, hS⟩ hL
theorem V_bast {r N : Nat} {f : Nat → Int32} {i x : Int32} (hd : decode K.2.1 pc = .ok (.bastore, 1)) (hr : ws[r]? = some (ia 1 N f)) (hin : vp_in i N) (k : V K (pc + 1) ls st (ws.set r (ia 1 N (upd f i.toNatClampNeg (vp_nar .byte x)))) cel slo Q) : V K pc ls (.int x :: .int i :: .ref (16 + r) :: st) ws cel slo Q := by
  intro p l e s m args below meth c D A n0 ad0 ac0 Z ad ac H locs lsA hC hR hG hH hL
  refine va_bast hC.1 hC.2.1 (tys := [(ac (16 + r), tyT 1)]) ⟨hC.2.2.2.2.2.2.2.2.1, fun k q h => by cases k with | zero => (cases h; exact hH.2.2.1 r 1 _ hr rfl) | succ k => simp at h⟩ hH.1 hH.2.1 hH.2.2.2 r 0 (cW_at hr) rfl hin hd (fun H1 locs1 hP hD hS => ?_)
  have e1 : (cW ad ac ws).set r (ad (16 + r), .inl (ac (16 + r), (N, .inl (upd f i.toNatClampNeg (vp_nar .byte x))))) = cW ad ac (ws.set r (ia 1 N (upd f i.toNatClampNeg (vp_nar .byte x)))) := by
    rw [← cW_set]; rfl
  rw [e1] at hP hD
  exact k p l e s m args below meth c D A n0 ad0 ac0 Z ad ac H1 locs1 lsA hC hR ⟨hG.1, fun h => by have := hG.2.1 h; simpa using this, by simpa using hG.2.2⟩ ⟨hP, hD, hH.2.2.1.set hr rfl, hS⟩ hL
theorem V_zast {r N : Nat} {f : Nat → Int32} {i x : Int32} (hd : decode K.2.1 pc = .ok (.bastore, 1)) (hr : ws[r]? = some (ia 2 N f)) (hin : vp_in i N) (k : V K (pc + 1) ls st (ws.set r (ia 2 N (upd f i.toNatClampNeg (vp_nar .boolean x)))) cel slo Q) : V K pc ls (.int x :: .int i :: .ref (16 + r) :: st) ws cel slo Q := by
  intro p l e s m args below meth c D A n0 ad0 ac0 Z ad ac H locs lsA hC hR hG hH hL
  refine va_zast hC.1 hC.2.1 (tys := [(ac (16 + r), tyT 2)]) ⟨hC.2.2.2.2.2.2.2.2.1, fun k q h => by cases k with | zero => (cases h; exact hH.2.2.1 r 2 _ hr rfl) | succ k => simp at h⟩ hH.1 hH.2.1 hH.2.2.2 r 0 (cW_at hr) rfl hin hd (fun H1 locs1 hP hD hS => ?_)
  have e1 : (cW ad ac ws).set r (ad (16 + r), .inl (ac (16 + r), (N, .inl (upd f i.toNatClampNeg (vp_nar .boolean x))))) = cW ad ac (ws.set r (ia 2 N (upd f i.toNatClampNeg (vp_nar .boolean x)))) := by
    rw [← cW_set]; rfl
  rw [e1] at hP hD
  exact k p l e s m args below meth c D A n0 ad0 ac0 Z ad ac H1 locs1 lsA hC hR ⟨hG.1, fun h => by have := hG.2.1 h; simpa using this, by simpa using hG.2.2⟩ ⟨hP, hD, hH.2.2.1.set hr rfl, hS⟩ hL
theorem V_alenR {r t : Nat} {fs : List (Option Nat)} (hd : decode K.2.1 pc = .ok (.arraylength, 1)) (hr : ws[r]? = some (ra t fs)) (k : V K (pc + 1) ls (.int (Int32.ofNat fs.length) :: st) ws cel slo Q) : V K pc ls (.ref (16 + r) :: st) ws cel slo Q := by
  intro p l e s m args below meth c D A n0 ad0 ac0 Z ad ac H locs lsA hC hR hG hH hL
  exact va_alen hC.1 hC.2.1 (tys := [(ac (16 + r), tyT t)]) ⟨hC.2.2.2.2.2.2.2.2.1, fun k q h => by cases k with | zero => (cases h; exact hH.2.2.1 r t _ hr rfl) | succ k => simp at h⟩ hH.1 r 0 (cW_at hr) rfl rfl hd (k p l e s m args below meth c D A n0 ad0 ac0 Z ad ac H locs lsA hC hR hG hH hL)
theorem V_alenI {r t N : Nat} {f : Nat → Int32} (hd : decode K.2.1 pc = .ok (.arraylength, 1)) (hr : ws[r]? = some (ia t N f)) (k : V K (pc + 1) ls (.int (Int32.ofNat N) :: st) ws cel slo Q) : V K pc ls (.ref (16 + r) :: st) ws cel slo Q := by
  intro p l e s m args below meth c D A n0 ad0 ac0 Z ad ac H locs lsA hC hR hG hH hL
  exact va_alen hC.1 hC.2.1 (tys := [(ac (16 + r), tyT t)]) ⟨hC.2.2.2.2.2.2.2.2.1, fun k q h => by cases k with | zero => (cases h; exact hH.2.2.1 r t _ hr rfl) | succ k => simp at h⟩ hH.1 r 0 (cW_at hr) rfl rfl hd (k p l e s m args below meth c D A n0 ad0 ac0 Z ad ac H locs lsA hC hR hG hH hL)
theorem V_aald3 {r y : Nat} {fs : List (Option Nat)} {i : Int32} (hd : decode K.2.1 pc = .ok (.aaload, 1)) (hr : ws[r]? = some (ra 3 fs)) (hin : vp_in i fs.length) (hy : fs.getD i.toNatClampNeg none = some y) (k : V K (pc + 1) ls (.ref y :: st) ws cel slo Q) : V K pc ls (.int i :: .ref (16 + r) :: st) ws cel slo Q := by
  intro p l e s m args below meth c D A n0 ad0 ac0 Z ad ac H locs lsA hC hR hG hH hL
  have k' := (k p l e s m args below meth c D A n0 ad0 ac0 Z ad ac H locs lsA hC hR hG hH hL)
  refine va_aldq hC.1 hC.2.1 (tys := [(ac (16 + r), tyT 3)]) ⟨hC.2.2.2.2.2.2.2.2.1, fun k q h => by cases k with | zero => (cases h; exact hH.2.2.1 r 3 _ hr rfl) | succ k => simp at h⟩ hH.1 r 0 (cW_at hr) rfl hin hd ?_
  rw [hy]
  exact k'
theorem V_aast3 {r y ci : Nat} {q : vw_C} {vs : List Value} {fs : List (Option Nat)} {i : Int32} (hd : decode K.2.1 pc = .ok (.aastore, 1)) (hr : ws[r]? = some (ra 3 fs)) (hin : vp_in i fs.length) (hy : ws[y]? = some (ob ci vs)) (hq : clsL[ci]? = some q) (hca : Cond.castable q.1 "CandleHouse$Plain" ∈ lw_tbl) (k : V K (pc + 1) ls st (ws.set r (ra 3 (fs.set i.toNatClampNeg (some (16 + y))))) cel slo Q) : V K pc ls (.ref (16 + y) :: .int i :: .ref (16 + r) :: st) ws cel slo Q := by
  intro p l e s m args below meth c D A n0 ad0 ac0 Z ad ac H locs lsA hC hR hG hH hL
  refine va_astqO hC.1 hC.2.1 (tys := [(ac (16 + r), tyT 3)]) ⟨hC.2.2.2.2.2.2.2.2.1, fun k q h => by cases k with | zero => (cases h; exact hH.2.2.1 r 3 _ hr rfl) | succ k => simp at h⟩ hH.1 hH.2.1 hH.2.2.2 r 0 y ci (cW_at hr) rfl (hC.2.2.2.2.2.2.2.1 _ hca (by simp [wk]) _) (cW_at hy) hq hin hd (fun H1 locs1 hP hD hS => ?_)
  have hlt : i.toNatClampNeg < fs.length := Nat.not_le.mp fun q => hin (Or.inr q)
  have e0 : va_up (fun i => (fs.getD i none).map ad) i.toNatClampNeg (some (ad (16 + y))) = fun j => ((fs.set i.toNatClampNeg (some (16 + y))).getD j none).map ad := by
    funext j
    simp only [va_up, List.getD_eq_getElem?_getD, List.getElem?_set]
    by_cases hij : j = i.toNatClampNeg
    · subst hij; simp [hlt]
    · simp [hij, Ne.symm hij]
  have e1 : (cW ad ac ws).set r (ad (16 + r), .inl (ac (16 + r), (fs.length, .inr (.inr (.inr (.inr (va_up (fun i => (fs.getD i none).map ad) i.toNatClampNeg (some (ad (16 + y)))))))))) = cW ad ac (ws.set r (ra 3 (fs.set i.toNatClampNeg (some (16 + y))))) := by
    rw [← cW_set, e0]
    congr 2
    simp only [ce, List.length_set]
  rw [e1] at hP hD
  exact k p l e s m args below meth c D A n0 ad0 ac0 Z ad ac H1 locs1 lsA hC hR ⟨hG.1, fun h => by have := hG.2.1 h; simpa using this, by simpa using hG.2.2⟩ ⟨hP, hD, hH.2.2.1.set hr rfl, hS⟩ hL
theorem V_aald4 {r y : Nat} {fs : List (Option Nat)} {i : Int32} (hd : decode K.2.1 pc = .ok (.aaload, 1)) (hr : ws[r]? = some (ra 4 fs)) (hin : vp_in i fs.length) (hy : fs.getD i.toNatClampNeg none = some y) (k : V K (pc + 1) ls (.ref y :: st) ws cel slo Q) : V K pc ls (.int i :: .ref (16 + r) :: st) ws cel slo Q := by
  intro p l e s m args below meth c D A n0 ad0 ac0 Z ad ac H locs lsA hC hR hG hH hL
  have k' := (k p l e s m args below meth c D A n0 ad0 ac0 Z ad ac H locs lsA hC hR hG hH hL)
  refine va_aldq hC.1 hC.2.1 (tys := [(ac (16 + r), tyT 4)]) ⟨hC.2.2.2.2.2.2.2.2.1, fun k q h => by cases k with | zero => (cases h; exact hH.2.2.1 r 4 _ hr rfl) | succ k => simp at h⟩ hH.1 r 0 (cW_at hr) rfl hin hd ?_
  rw [hy]
  exact k'
theorem V_aast4 {r y ci : Nat} {q : vw_C} {vs : List Value} {fs : List (Option Nat)} {i : Int32} (hd : decode K.2.1 pc = .ok (.aastore, 1)) (hr : ws[r]? = some (ra 4 fs)) (hin : vp_in i fs.length) (hy : ws[y]? = some (ob ci vs)) (hq : clsL[ci]? = some q) (hca : Cond.castable q.1 "CandleHouse$Chamber" ∈ lw_tbl) (k : V K (pc + 1) ls st (ws.set r (ra 4 (fs.set i.toNatClampNeg (some (16 + y))))) cel slo Q) : V K pc ls (.ref (16 + y) :: .int i :: .ref (16 + r) :: st) ws cel slo Q := by
  intro p l e s m args below meth c D A n0 ad0 ac0 Z ad ac H locs lsA hC hR hG hH hL
  refine va_astqO hC.1 hC.2.1 (tys := [(ac (16 + r), tyT 4)]) ⟨hC.2.2.2.2.2.2.2.2.1, fun k q h => by cases k with | zero => (cases h; exact hH.2.2.1 r 4 _ hr rfl) | succ k => simp at h⟩ hH.1 hH.2.1 hH.2.2.2 r 0 y ci (cW_at hr) rfl (hC.2.2.2.2.2.2.2.1 _ hca (by simp [wk]) _) (cW_at hy) hq hin hd (fun H1 locs1 hP hD hS => ?_)
  have hlt : i.toNatClampNeg < fs.length := Nat.not_le.mp fun q => hin (Or.inr q)
  have e0 : va_up (fun i => (fs.getD i none).map ad) i.toNatClampNeg (some (ad (16 + y))) = fun j => ((fs.set i.toNatClampNeg (some (16 + y))).getD j none).map ad := by
    funext j
    simp only [va_up, List.getD_eq_getElem?_getD, List.getElem?_set]
    by_cases hij : j = i.toNatClampNeg
    · subst hij; simp [hlt]
    · simp [hij, Ne.symm hij]
  have e1 : (cW ad ac ws).set r (ad (16 + r), .inl (ac (16 + r), (fs.length, .inr (.inr (.inr (.inr (va_up (fun i => (fs.getD i none).map ad) i.toNatClampNeg (some (ad (16 + y)))))))))) = cW ad ac (ws.set r (ra 4 (fs.set i.toNatClampNeg (some (16 + y))))) := by
    rw [← cW_set, e0]
    congr 2
    simp only [ce, List.length_set]
  rw [e1] at hP hD
  exact k p l e s m args below meth c D A n0 ad0 ac0 Z ad ac H1 locs1 lsA hC hR ⟨hG.1, fun h => by have := hG.2.1 h; simpa using this, by simpa using hG.2.2⟩ ⟨hP, hD, hH.2.2.1.set hr rfl, hS⟩ hL
end Rows
