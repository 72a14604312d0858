/-! what the statement gives of the start -/
abbrev gv1 : Cond := Jvm.Cond.and given_1 narrow_1
abbrev tmS (i : Nat) : Term := .string "CandleHouse$Script" (wdIx.getD i 0)
abbrev tmN : Term := .static "CandleHouse$Script" "NUMBERS_BEHIND" "[I"
abbrev tmV (i : Nat) : Term := .field (tmS i) "java/lang/String" "value" "[B"
theorem g_cs : Cond.eq (.static "java/lang/String" "COMPACT_STRINGS" "Z") (.int 1) ∈ flatC gv1 := by decide +kernel
theorem g_fm : Cond.isRef (.static sioC sioN sioD) ∈ flatC gv1 := by decide +kernel
theorem g_na : Cond.arrayOf tmN .int ∈ flatC gv1 := by decide +kernel
theorem g_nl : Cond.eq (.length tmN) (.int (Int32.ofNat 6)) ∈ flatC gv1 := by decide +kernel
theorem g_ne : ∀ j, j < 6 → Cond.eq (.elem tmN (.int (Int32.ofNat j))) (.int (nbL.getD j 0)) ∈ flatC gv1 := by decide +kernel
theorem g_se : ∀ i, i < 6 → Cond.exactly (tmS i) "java/lang/String" ∈ flatC gv1 := by decide +kernel
theorem g_sc : ∀ i, i < 6 → Cond.eq (.field (tmS i) "java/lang/String" "coder" "B") (.int 0) ∈ flatC gv1 := by decide +kernel
theorem g_sa : ∀ i, i < 6 → Cond.arrayOf (tmV i) .byte ∈ flatC gv1 := by decide +kernel
theorem g_sl : ∀ i, i < 6 → Cond.eq (.length (tmV i)) (.int (Int32.ofNat (wdLen.getD i 0))) ∈ flatC gv1 := by decide +kernel
theorem g_sb : ∀ i, i < 6 → ∀ j, j < wdLen.getD i 0 → Cond.eq (.elem (tmV i) (.int (Int32.ofNat j))) (.int ((wdByt.getD i []).getD j 0)) ∈ flatC gv1 := by decide +kernel
theorem g_sn : ∀ i, i < 6 → ∀ j, j < 6 → i ≠ j → Cond.not (Cond.eq (tmS i) (tmS j)) ∈ flatC gv1 ∨ Cond.not (Cond.eq (tmS j) (tmS i)) ∈ flatC gv1 := by decide +kernel
theorem g_l1 : Cond.laysStatic "java/lang/String" "COMPACT_STRINGS" "Z" ∈ lw_tbl := by decide +kernel
theorem g_l2 : Cond.laysStatic sioC sioN sioD ∈ lw_tbl := by decide +kernel
theorem g_l3 : Cond.laysStatic "CandleHouse$Script" "NUMBERS_BEHIND" "[I" ∈ lw_tbl := by decide +kernel
theorem g_sr : ∀ i, i < 6 → Cond.stringRef "CandleHouse$Script" (wdIx.getD i 0) (wdTxt.getD i "") ∈ lw_tbl := by decide +kernel
theorem Xs0 {s : State} {b : Nat} (hts : ∀ w ∈ lw_tbl, w.before #[Value.ref b] s = true) (hgv : gv1.before #[Value.ref b] s = true) : ∃ ad : Nat → Nat, ad 0 = b ∧ Xs ad (fun q => s.heap.size ≤ q) s := by
  have hA : ∀ a : Nat, a < s.heap.size → ¬ (fun q : Nat => s.heap.size ≤ q) a := fun a h => Nat.not_le.mpr h
  have hfl := flat_of_before _ hgv
  have z1 := va_Zof (hts _ g_l1) (hts _ w13) (va_eqi (hfl _ g_cs)) hA
  have z2 := va_Zqof (hts _ g_l2) (hts _ w15) (hfl _ g_fm) hA
  obtain ⟨t13, ht13, hT⟩ := va_Tof (tm := tmN) (ty := .int) (N := 6) (f := fun j => .int (nbL.getD j 0)) (by decide) (hfl _ g_na) (va_eqt (hfl _ g_nl)) (fun j hj => va_eqt (hfl _ (g_ne j hj))) hA
  have z3 := va_Zref (hts _ g_l3) (hts _ w10) ht13 hA
  obtain ⟨adK, adV, hS, hK⟩ := vk_Sof (N := 6) (tm := tmS) (len := wdLen) (byt := wdByt) (by decide) (fun i hi => hfl _ (g_se i hi)) (fun i hi => hfl _ (g_sc i hi)) (fun i hi => hfl _ (g_sa i hi)) (fun i hi => hfl _ (g_sl i hi)) (fun i hi j hj => hfl _ (g_sb i hi j hj)) (fun i j hi hj h => (g_sn i hi j hj h).imp (hfl _) (hfl _)) hA
  obtain ⟨t14, ht14⟩ : ∃ t14, va_Z sioC sioN sioD .null (fun q => s.heap.size ≤ q) s s.heap ∨ va_Z sioC sioN sioD (.ref t14) (fun q => s.heap.size ≤ q) s s.heap := by
    rcases z2 with z2 | ⟨t, z2⟩
    · exact ⟨0, Or.inl z2⟩
    · exact ⟨t, Or.inr z2⟩
  refine ⟨fun k => if k = 0 then b else if k < 7 then adK (k - 1) else if k < 13 then adV (k - 7) else if k = 13 then t13 else t14, rfl, z1, ht14, z3, hT, ?_, ?_⟩
  · have e1 : ∀ i, i < 6 → (if 1 + i = 0 then b else if 1 + i < 7 then adK (1 + i - 1) else if 1 + i < 13 then adV (1 + i - 7) else if 1 + i = 13 then t13 else t14) = adK i := fun i hi => by
      rw [if_neg (by omega), if_pos (by omega), show 1 + i - 1 = i by omega]
    have e2 : ∀ i, i < 6 → (if 7 + i = 0 then b else if 7 + i < 7 then adK (7 + i - 1) else if 7 + i < 13 then adV (7 + i - 7) else if 7 + i = 13 then t13 else t14) = adV i := fun i hi => by
      rw [if_neg (by omega), if_neg (by omega), if_pos (by omega), show 7 + i - 7 = i by omega]
    refine ⟨fun i hi => ?_, fun i j hi hj h => hS.2 i j hi hj ?_⟩
    · have := hS.1 i hi
      dsimp only
      rw [e1 i hi, e2 i hi]
      exact this
    · dsimp only at h
      rw [e1 i hi, e1 j hj] at h
      exact h
  · intro i hi
    refine vk_R.of (hts _ (g_sr i hi)) ?_
    dsimp only
    rw [if_neg (by omega), if_pos (by omega), show 1 + i - 1 = i by omega]
    exact hK i hi
theorem Kn0 {s : State} {b : Nat} (hts : ∀ w ∈ lw_tbl, w.before #[Value.ref b] s = true) : ∃ D : va_G, Kn D s := by
  have k0 := u_known hts (fun w hw => (uok_X0 w hw).1) (hts _ w35)
  have k1 := u_known hts (fun w hw => (uok_X1 w hw).1) (hts _ w29)
  have k2 := u_known hts (fun w hw => (uok_X2 w hw).1) (hts _ w57)
  have k3 := u_known hts (fun w hw => (uok_X3 w hw).1) (hts _ w217)
  have k4 := u_known hts (fun w hw => (uok_X4 w hw).1) (hts _ w78)
  have k5 := u_known hts (fun w hw => (uok_X5 w hw).1) (hts _ w42)
  have k6 := u_known hts (fun w hw => (uok_X6 w hw).1) (hts _ w186)
  have k7 := u_known hts (fun w hw => (uok_X7 w hw).1) (hts _ w50)
  have k8 := u_known hts (fun w hw => (uok_X8 w hw).1) (hts _ w71)
  have k9 := u_known hts (fun w hw => (uok_X9 w hw).1) (hts _ w64)
  have k10 := u_known hts (fun w hw => (uok_X10 w hw).1) (hts _ w21)
  have k11 := u_known hts (fun w hw => (uok_X11 w hw).1) (hts _ w839)
  have h : ∀ k : Nat, ∃ x : ClassId × (Nat → Nat), ∀ q : vw_C, clsL[k]? = some q → u_Kn s q.1 q.2.1 q.2.2 x.1 x.2 := by
    have mk : ∀ {C : String} {T : u_T} {N k : Nat}, clsL[k]? = some (C, T, N) → (∃ (cC : ClassId) (iS : Nat → Nat), u_Kn s C T N cC iS) → ∃ x : ClassId × (Nat → Nat), ∀ q : vw_C, clsL[k]? = some q → u_Kn s q.1 q.2.1 q.2.2 x.1 x.2 := by
      intro C T N k e h
      obtain ⟨cC, iS, h⟩ := h
      refine ⟨(cC, iS), fun q hq => ?_⟩
      rw [e] at hq
      cases hq
      exact h
    intro k
    match k with
    | 0 => exact mk rfl k0
    | 1 => exact mk rfl k1
    | 2 => exact mk rfl k2
    | 3 => exact mk rfl k3
    | 4 => exact mk rfl k4
    | 5 => exact mk rfl k5
    | 6 => exact mk rfl k6
    | 7 => exact mk rfl k7
    | 8 => exact mk rfl k8
    | 9 => exact mk rfl k9
    | 10 => exact mk rfl k10
    | 11 => exact mk rfl k11
    | k + 12 =>
      obtain ⟨cC, iS, h⟩ := k0
      exact ⟨(cC, iS), fun q hq => by cases hq⟩
  obtain ⟨f, hf⟩ := Classical.axiomOfChoice h
  exact ⟨(fun k => (f k).1, fun k => (f k).2), fun k q hq => hf k q hq⟩
theorem whole_start {p : Program} {e : Env} {s : State} {m : MethodId} {below : List Frame} {meth : Method} {c : Code} (l : Launch) {b L : Nat} {xs : Nat → Int32} (hL : L ≤ 384) (C0 : lw_At p s m meth c b L xs) (hnm : meth.name = "law") : W p l e room_1 s m #[Value.ref b] below meth c s.heap [] 0 0 (lw_Z below #[Value.ref b] s) (entryFrame m ([Value.ref b] : List Value).toArray 4) := by
  obtain ⟨hx, hb, hr, hml, hown, hts, hX, hbl, hlocks, hgv⟩ := C0
  obtain ⟨ad, ead, hXs⟩ := Xs0 hts hgv
  obtain ⟨D, hKn⟩ := Kn0 hts
  have hbA : ¬ (fun q : Nat => s.heap.size ≤ q) b := Nat.not_le.mpr hbl
  have hl := lv_entry ([.ref b]) (n := 4) (Nat.le_of_ble_eq_true rfl)
  rw [lg_entry_eq]
  generalize (lg_sl ([.ref b]) ++ List.replicate (4 - (lg_sl ([.ref b])).length) Slot.unset).toArray = lsA at hl ⊢
  have hl : lv_has lsA 4 [(0, .ref b)] := hl
  refine V_law (L := L) (xs := xs) hL p l e s m #[Value.ref b] below meth c D (fun q => s.heap.size ≤ q) 0 ad (fun _ => m.cls) (lw_Z below #[Value.ref b] s) ad (fun _ => m.cls) s.heap [] lsA ?_ ?_ ?_ ?_ ?_
  · refine ⟨hx, hb, hml, hr, hlocks, hown, hnm, Tw.of hts, hKn, fun _ h => h, hXs, fun L2 xs2 hh => ?_⟩
    cases hh
    rw [ead]
    exact ⟨hX, hbl, hbA⟩
  · intro H locs lsA pc cel slo ad' ac' ws' hH hG hc1 hs1
    refine ⟨fun h => (by cases h), fun v ty hty hn hd hq => ?_, fun v h => (by cases h), fun k rt h hrt => ?_⟩
    · obtain ⟨v2, e2, e3⟩ := hq
      cases e2
      cases e3
      refine W.widen hc1 hs1 ?_
      exact va_forget (fun q hq => hH.2.2.2.2.2 q hq) (lw_ret hx hb hr hlocks hd)
    · cases h
      rcases hrt with ⟨n, h⟩ | ⟨t, h⟩
      · cases h
      · cases h
  · exact ⟨fun k _ => ⟨rfl, rfl⟩, fun _ => ⟨rfl, rfl, rfl⟩, Nat.le_refl _⟩
  · refine ⟨fun k q h => ?_, ⟨fun i j p q h => ?_, fun k q h => ?_⟩, fun i t c hc => ?_, va_S.rf⟩
    · simp [cW] at h
    · simp [cW] at h
    · simp [cW] at h
    · simp at hc
  · refine ⟨hl.1, hl.2.1, fun i v hi => ?_⟩
    match i, hi with
    | 0, hi =>
      cases hi
      have := hl.2.2 _ List.mem_cons_self
      show lsA[0]? = some (.val (.ref (ad 0)))
      rw [ead]
      exact this
    | 1, hi => cases hi
    | 2, hi => cases hi
    | 3, hi => cases hi
    | i + 4, hi => cases hi
