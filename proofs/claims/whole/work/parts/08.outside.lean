section Outside
variable {K : Kt} {pc : Nat} {ls : List (Option Value)} {st : List Value} {ws : Wd} {cel slo : Nat} {Q : Option Value → Wd → Prop}
theorem cats_le {f : Nat → Nat} {st : List Value} {a b : Nat} (h : (st.map fun v => v.category).sum + a ≤ b) : ((st.map (cv f)).map fun v => v.category).sum + a ≤ b := by rw [cats_cv]; exact h
/-- System.arraycopy between arrays of ints of the world -/
theorem V_acopy {r0 r1 N0 N1 idx : Nat} {f g : Nat → Int32} {sp dp n : Int32} (hd : decode K.2.1 pc = .ok (.invokestatic idx, 3)) (hl : Cond.methodLink K.1.cls idx arraycopyName ∈ lw_tbl) (hnv : Cond.native arraycopyName ∈ lw_tbl) (hst : Cond.static arraycopyName ∈ lw_tbl) (hini : Cond.initialized "java/lang/System" ∈ lw_tbl) (hr0 : ws[r0]? = some (ia 0 N0 f)) (hr1 : ws[r1]? = some (ia 0 N1 g)) (h1 : ¬ sp < 0) (h2 : ¬ dp < 0) (h3 : ¬ n < 0) (h4 : sp.toNatClampNeg + n.toNatClampNeg ≤ N0) (h5 : dp.toNatClampNeg + n.toNatClampNeg ≤ N1) (hfr : 1 ≤ K.2.2.2.2.1.frames) (hlo : (st.map fun v => v.category).sum + (nativeFrameWords "java/lang/System" "arraycopy" 5 + 11) ≤ K.2.2.2.2.1.locals)
    (k : V K (pc + 3) ls st (ws.set r1 (ia 0 N1 (va_cpy f g sp.toNatClampNeg dp.toNatClampNeg n.toNatClampNeg))) cel slo Q) : V K pc ls (.int n :: .int dp :: .ref (16 + r1) :: .int sp :: .ref (16 + r0) :: st) ws cel slo Q := by
  intro p l e s m args below meth c D A n0 ad0 ac0 Z ad ac H locs lsA hC hR hG hH hL
  obtain ⟨hx, hb, hml, hret, hlk, hown, hnm, hT, hKn, hA, hX, hScr⟩ := id hC
  refine va_copyi (tys := [(ac (16 + r0), tyT 0), (ac (16 + r1), tyT 0)]) (ty := .int) hx hb (hml.trans hL.1.symm) hown (hT _ hl (wk_ml _ _ _) _) (hT _ hnv (wk_nat _) _) (hT _ hst (wk_stat _) _) (hT _ hini (wk_ini _) _) ⟨hKn, fun k q h => ?_⟩ hH.1 hH.2.1 hH.2.2.2 r0 r1 0 1 (cW_at hr0) (cW_at hr1) rfl rfl rfl h1 h2 h3 h4 h5 (fun _ _ => rfl) hfr (cats_le hlo) hd (fun H1 locs1 hP hD hS => ?_)
  · match k, h with
    | 0, h => cases h; exact hH.2.2.1 r0 0 _ hr0 rfl
    | 1, h => cases h; exact hH.2.2.1 r1 0 _ hr1 rfl
    | k + 2, h => simp at h
  · have e1 : (cW ad ac ws).set r1 (ad (16 + r1), .inl (ac (16 + r1), (N1, .inl (va_cpy f g sp.toNatClampNeg dp.toNatClampNeg n.toNatClampNeg)))) = cW ad ac (ws.set r1 (ia 0 N1 (va_cpy f g sp.toNatClampNeg dp.toNatClampNeg n.toNatClampNeg))) := by
      rw [← cW_set]; rfl
    rw [e1] at hP hD
    exact k p l e s m args below meth c D A n0 ad0 ac0 Z ad ac H1 locs1 lsA hC hR ⟨hG.1, fun h => by have := hG.2.1 h; simpa using this, by simpa using hG.2.2⟩ ⟨hP, hD, hH.2.2.1.set hr1 rfl, hS⟩ hL
theorem V_min {idx : Nat} {x y : Int32} (hd : decode K.2.1 pc = .ok (.invokestatic idx, 3)) (hl : Cond.methodLink K.1.cls idx Lib.Math.min.name ∈ lw_tbl) (hst : Cond.static Lib.Math.min.name ∈ lw_tbl) (hini : Cond.initialized "java/lang/Math" ∈ lw_tbl) (hcd : Cond.code Lib.Math.min.name Lib.Math.min.code 2 (some .int) ∈ lw_tbl) (hfr : 1 ≤ K.2.2.2.2.1.frames) (hlo : (st.map fun v => v.category).sum + 13 ≤ K.2.2.2.2.1.locals) (hc : cel ≤ K.2.2.2.2.1.cells) (hs : slo ≤ K.2.2.2.2.1.slots) (k : V K (pc + 3) ls (.int (if y < x then y else x) :: st) ws cel slo Q) : V K pc ls (.int y :: .int x :: st) ws cel slo Q := by
  intro p l e s m args below meth c D A n0 ad0 ac0 Z ad ac H locs lsA hC hR hG hH hL
  obtain ⟨hx, hb, hml, hret, hlk, hown, hnm, hT, hKn, hA, hX, hScr⟩ := id hC
  exact va_mmin hx hb (hml.trans hL.1.symm) hown (hT _ hl (wk_ml _ _ _) _) (hT _ hst (wk_stat _) _) (hT _ hini (wk_ini _) _) (hT _ hcd (by simp [wk, goodWord, Cond.onTables, Cond.keeps, Cond.steady]) _) hfr (cats_le hlo) hc hs hd (k p l e s m args below meth c D A n0 ad0 ac0 Z ad ac H locs lsA hC hR hG hH hL)
theorem V_oini {idx r : Nat} (hd : decode K.2.1 pc = .ok (.invokespecial idx, 3)) (hl : Cond.methodLink K.1.cls idx objectInit ∈ lw_tbl) (hi : Cond.instanceMethod objectInit ∈ lw_tbl) (hcd : Cond.code objectInit ⟨#[0xb1]⟩ 1 none ∈ lw_tbl) (hfr : 1 ≤ K.2.2.2.2.1.frames) (hlo : (st.map fun v => v.category).sum + 12 ≤ K.2.2.2.2.1.locals) (k : V K (pc + 3) ls st ws cel slo Q) : V K pc ls (.ref r :: st) ws cel slo Q := by
  intro p l e s m args below meth c D A n0 ad0 ac0 Z ad ac H locs lsA hC hR hG hH hL
  obtain ⟨hx, hb, hml, hret, hlk, hown, hnm, hT, hKn, hA, hX, hScr⟩ := id hC
  refine W.objInit hx hb hown (hT _ hl (wk_ml _ _ _) _) (hT _ hi (wk_inst _) _) (hT _ hcd (by simp [wk, goodWord, Cond.onTables, Cond.keeps, Cond.steady]) _) rfl (hL.1.trans hml.symm) rfl hd hfr ?_ (k p l e s m args below meth c D A n0 ad0 ac0 Z ad ac H locs lsA hC hR hG hH hL)
  have := cats_le (f := ad) hlo
  show 2 * 0 + _ + 12 ≤ _
  omega
/-! statics -/
theorem V_getsC {idx : Nat} (hd : decode K.2.1 pc = .ok (.getstatic idx, 3)) (hl : Cond.fieldLink K.1.cls idx "java/lang/String" "COMPACT_STRINGS" "Z" ∈ lw_tbl) (k : V K (pc + 3) ls (.int 1 :: st) ws cel slo Q) : V K pc ls st ws cel slo Q := by
  intro p l e s m args below meth c D A n0 ad0 ac0 Z ad ac H locs lsA hC hR hG hH hL
  obtain ⟨hx, hb, hml, hret, hlk, hown, hnm, hT, hKn, hA, hX, hScr⟩ := id hC
  exact va_gets hx hb hX.1 hH.2.2.2 hown (hT _ hl (wk_fl _ _ _ _ _) _) (fun _ h => h) hd (k p l e s m args below meth c D A n0 ad0 ac0 Z ad ac H locs lsA hC hR hG hH hL)
theorem V_getsF {idx : Nat} (hd : decode K.2.1 pc = .ok (.getstatic idx, 3)) (hl : Cond.fieldLink K.1.cls idx sioC sioN sioD ∈ lw_tbl) (k : ∀ v : Value, v = .null ∨ v = .ref 14 → V K (pc + 3) ls (v :: st) ws cel slo Q) : V K pc ls st ws cel slo Q := by
  intro p l e s m args below meth c D A n0 ad0 ac0 Z ad ac H locs lsA hC hR hG hH hL
  obtain ⟨hx, hb, hml, hret, hlk, hown, hnm, hT, hKn, hA, hX, hScr⟩ := id hC
  rcases hX.2.1 with h | h
  · exact va_gets hx hb h hH.2.2.2 hown (hT _ hl (wk_fl _ _ _ _ _) _) (fun _ h => h) hd (k .null (Or.inl rfl) p l e s m args below meth c D A n0 ad0 ac0 Z ad ac H locs lsA hC hR hG hH hL)
  · rw [← (hG.1 14 (by omega)).1] at h
    exact va_gets hx hb h hH.2.2.2 hown (hT _ hl (wk_fl _ _ _ _ _) _) (fun _ h => h) hd (k (.ref 14) (Or.inr rfl) p l e s m args below meth c D A n0 ad0 ac0 Z ad ac H locs lsA hC hR hG hH hL)
theorem V_getsN {idx : Nat} (hd : decode K.2.1 pc = .ok (.getstatic idx, 3)) (hl : Cond.fieldLink K.1.cls idx "CandleHouse$Script" "NUMBERS_BEHIND" "[I" ∈ lw_tbl) (k : V K (pc + 3) ls (.ref 13 :: st) ws cel slo Q) : V K pc ls st ws cel slo Q := by
  intro p l e s m args below meth c D A n0 ad0 ac0 Z ad ac H locs lsA hC hR hG hH hL
  obtain ⟨hx, hb, hml, hret, hlk, hown, hnm, hT, hKn, hA, hX, hScr⟩ := id hC
  have h := hX.2.2.1
  rw [← (hG.1 13 (by omega)).1] at h
  exact va_gets hx hb h hH.2.2.2 hown (hT _ hl (wk_fl _ _ _ _ _) _) (fun _ h => h) hd (k p l e s m args below meth c D A n0 ad0 ac0 Z ad ac H locs lsA hC hR hG hH hL)
theorem V_nbl {i : Int32} (hd : decode K.2.1 pc = .ok (.iaload, 1)) (hin : vp_in i 6) (k : V K (pc + 1) ls (.int (nbL.getD i.toNatClampNeg 0) :: st) ws cel slo Q) : V K pc ls (.int i :: .ref 13 :: st) ws cel slo Q := by
  intro p l e s m args below meth c D A n0 ad0 ac0 Z ad ac H locs lsA hC hR hG hH hL
  obtain ⟨hx, hb, hml, hret, hlk, hown, hnm, hT, hKn, hA, hX, hScr⟩ := id hC
  have h := hX.2.2.2.1
  rw [← (hG.1 13 (by omega)).1] at h
  exact va_ti hx hb h hH.2.2.2 hin rfl hd (k p l e s m args below meth c D A n0 ad0 ac0 Z ad ac H locs lsA hC hR hG hH hL)
/-! Strings -/
theorem V_ldcS {i idx : Nat} (hd : decode K.2.1 pc = .ok (.ldc idx, 2)) (hcls : K.1.cls = "CandleHouse$Script") (hi : i < 6) (hix : wdIx.getD i 0 = idx) (k : V K (pc + 2) ls (.ref (1 + i) :: st) ws cel slo Q) : V K pc ls st ws cel slo Q := by
  intro p l e s m args below meth c D A n0 ad0 ac0 Z ad ac H locs lsA hC hR hG hH hL
  obtain ⟨hx, hb, hml, hret, hlk, hown, hnm, hT, hKn, hA, hX, hScr⟩ := id hC
  have h := hX.2.2.2.2.2 i hi
  rw [← (hG.1 (1 + i) (by omega)).1, hix] at h
  rw [hcls] at hown
  exact va_ldcS hx hb hown h hd (k p l e s m args below meth c D A n0 ad0 ac0 Z ad ac H locs lsA hC hR hG hH hL)
theorem V_getSv {i idx : Nat} (hd : decode K.2.1 pc = .ok (.getfield idx, 3)) (hi : i < 6) (hl : Cond.fieldLink K.1.cls idx "java/lang/String" "value" "[B" ∈ lw_tbl) (k : V K (pc + 3) ls (.ref (7 + i) :: st) ws cel slo Q) : V K pc ls (.ref (1 + i) :: st) ws cel slo Q := by
  intro p l e s m args below meth c D A n0 ad0 ac0 Z ad ac H locs lsA hC hR hG hH hL
  obtain ⟨hx, hb, hml, hret, hlk, hown, hnm, hT, hKn, hA, hX, hScr⟩ := id hC
  have h := (hX.2.2.2.2.1.1 i hi).2.2.1
  dsimp only at h
  rw [← (hG.1 (1 + i) (by omega)).1, ← (hG.1 (7 + i) (by omega)).1] at h
  exact vk_getf hx hb h hH.2.2.2 hown (hT _ hl (wk_fl _ _ _ _ _) _) (fun _ h => h) hd (k p l e s m args below meth c D A n0 ad0 ac0 Z ad ac H locs lsA hC hR hG hH hL)
theorem V_getSc {i idx : Nat} (hd : decode K.2.1 pc = .ok (.getfield idx, 3)) (hi : i < 6) (hl : Cond.fieldLink K.1.cls idx "java/lang/String" "coder" "B" ∈ lw_tbl) (k : V K (pc + 3) ls (.int 0 :: st) ws cel slo Q) : V K pc ls (.ref (1 + i) :: st) ws cel slo Q := by
  intro p l e s m args below meth c D A n0 ad0 ac0 Z ad ac H locs lsA hC hR hG hH hL
  obtain ⟨hx, hb, hml, hret, hlk, hown, hnm, hT, hKn, hA, hX, hScr⟩ := id hC
  have h := (hX.2.2.2.2.1.1 i hi).2.1
  dsimp only at h
  rw [← (hG.1 (1 + i) (by omega)).1] at h
  exact vk_getf hx hb h hH.2.2.2 hown (hT _ hl (wk_fl _ _ _ _ _) _) (fun _ h => h) hd (k p l e s m args below meth c D A n0 ad0 ac0 Z ad ac H locs lsA hC hR hG hH hL)
theorem V_tlen {i : Nat} (hd : decode K.2.1 pc = .ok (.arraylength, 1)) (hi : i < 6) (k : V K (pc + 1) ls (.int (Int32.ofNat (wdLen.getD i 0)) :: st) ws cel slo Q) : V K pc ls (.ref (7 + i) :: st) ws cel slo Q := by
  intro p l e s m args below meth c D A n0 ad0 ac0 Z ad ac H locs lsA hC hR hG hH hL
  obtain ⟨hx, hb, hml, hret, hlk, hown, hnm, hT, hKn, hA, hX, hScr⟩ := id hC
  have h := (hX.2.2.2.2.1.1 i hi).2.2.2
  dsimp only at h
  rw [← (hG.1 (7 + i) (by omega)).1] at h
  exact va_tlen hx hb h hH.2.2.2 rfl hd (k p l e s m args below meth c D A n0 ad0 ac0 Z ad ac H locs lsA hC hR hG hH hL)
theorem V_tbl {i : Nat} {j : Int32} (hd : decode K.2.1 pc = .ok (.baload, 1)) (hi : i < 6) (hin : vp_in j (wdLen.getD i 0)) (k : V K (pc + 1) ls (.int ((wdByt.getD i []).getD j.toNatClampNeg 0) :: st) ws cel slo Q) : V K pc ls (.int j :: .ref (7 + i) :: st) ws cel slo Q := by
  intro p l e s m args below meth c D A n0 ad0 ac0 Z ad ac H locs lsA hC hR hG hH hL
  obtain ⟨hx, hb, hml, hret, hlk, hown, hnm, hT, hKn, hA, hX, hScr⟩ := id hC
  have h := (hX.2.2.2.2.1.1 i hi).2.2.2
  dsimp only at h
  rw [← (hG.1 (7 + i) (by omega)).1] at h
  exact va_tb hx hb h hH.2.2.2 hin rfl hd (k p l e s m args below meth c D A n0 ad0 ac0 Z ad ac H locs lsA hC hR hG hH hL)
/-! the law's script -/
theorem V_sld {L : Nat} {xs : Nat → Int32} {i : Int32} (hX : K.2.2.2.2.2 = some (L, xs)) (hd : decode K.2.1 pc = .ok (.iaload, 1)) (hin : vp_in i L) (k : V K (pc + 1) ls (.int (xs i.toNatClampNeg) :: st) ws cel slo Q) : V K pc ls (.int i :: .ref 0 :: st) ws cel slo Q := by
  intro p l e s m args below meth c D A n0 ad0 ac0 Z ad ac H locs lsA hC hR hG hH hL
  obtain ⟨hx, hb, hml, hret, hlk, hown, hnm, hT, hKn, hA, hX1, hScr⟩ := id hC
  obtain ⟨h1, h2, h3⟩ := hScr L xs hX
  rw [← (hG.1 0 (by omega)).1] at h1 h2 h3
  exact va_sld hx hb h1 h2 h3 hH.2.2.2 hin hd (k p l e s m args below meth c D A n0 ad0 ac0 Z ad ac H locs lsA hC hR hG hH hL)
theorem V_slen {L : Nat} {xs : Nat → Int32} (hX : K.2.2.2.2.2 = some (L, xs)) (hd : decode K.2.1 pc = .ok (.arraylength, 1)) (k : V K (pc + 1) ls (.int (Int32.ofNat L) :: st) ws cel slo Q) : V K pc ls (.ref 0 :: st) ws cel slo Q := by
  intro p l e s m args below meth c D A n0 ad0 ac0 Z ad ac H locs lsA hC hR hG hH hL
  obtain ⟨hx, hb, hml, hret, hlk, hown, hnm, hT, hKn, hA, hX1, hScr⟩ := id hC
  obtain ⟨h1, h2, h3⟩ := hScr L xs hX
  rw [← (hG.1 0 (by omega)).1] at h1 h2 h3
  exact va_slen hx hb h1 h2 h3 hH.2.2.2 hd (k p l e s m args below meth c D A n0 ad0 ac0 Z ad ac H locs lsA hC hR hG hH hL)
/-- what Q asks may be less -/
theorem V.imp {Q1 : Option Value → Wd → Prop} (h : V K pc ls st ws cel slo Q1) (hq : ∀ r w, Q1 r w → Q r w) : V K pc ls st ws cel slo Q := by
  intro p l e s m args below meth c D A n0 ad0 ac0 Z ad ac H locs lsA hC hR hG hH hL
  refine h p l e s m args below meth c D A n0 ad0 ac0 Z ad ac H locs lsA hC ?_ hG hH hL
  intro H locs lsA pc cel slo ad ac ws h1 h2 h3 h4
  obtain ⟨g1, g2, g3, g4⟩ := hR H locs lsA pc cel slo ad ac ws h1 h2 h3 h4
  exact ⟨fun a b c => g1 a b (hq _ _ c), fun v ty a b c d => g2 v ty a b c (hq _ _ d), fun v a b c => g3 v a b (hq _ _ c), fun k rt a b c d => g4 k rt a b c (hq _ _ d)⟩
end Outside
theorem dn {P : Nat → Prop} (N : Nat) (h : ∀ i, i ≤ N → (i < N → P (i + 1)) → P i) : ∀ i, i ≤ N → P i := by
  intro i hi
  have : ∀ n i, i + n = N → P i := by
    intro n
    induction n with
    | zero => intro i hi; exact h i (by omega) (fun hh => absurd hh (by omega))
    | succ n ih => intro i hi; exact h i (by omega) (fun _ => ih (i + 1) (by omega))
  exact this (N - i) i (by omega)
