/-! which receiver -/
def Rc (C : Option String) (As : List Value) (ws : Wd) : Prop := ∀ n, C = some n → ∀ (D : va_G) (A : Nat → Prop) (s : State) (ad ad0 : Nat → Nat) (ac : Nat → ClassId) (H : Heap) (locs : List Loc), Kn D s → Hs D A s ad ac ws H locs → Xs ad0 A s → (∀ k, k < 16 → ad k = ad0 k) → ∃ (b : Nat) (t : List Value) (cell : Cell), As.map (cv ad) = .ref b :: t ∧ H[b]? = some cell ∧ cell.vm.isStatics = false ∧ s.vm.findClass n = some cell.cls
theorem Rc_no {As : List Value} {ws : Wd} : Rc none As ws := fun n h => by cases h
theorem Rc_ob {As : List Value} {ws : Wd} {ci r : Nat} {fs : List Value} {q : vw_C} (hr : ws[r]? = some (ob ci fs)) (hq : clsL[ci]? = some q) : Rc (some q.1) (.ref (16 + r) :: As) ws := by
  intro n hn D A s ad ad0 ac H locs hKn hH hX he
  cases hn
  obtain ⟨cell, g1, g2, g3⟩ := va_recv (cl := clsL) (tys := []) ⟨hKn, fun k q h => by simp at h⟩ hH.1 hq (cW_at hr)
  exact ⟨ad (16 + r), As.map (cv ad), cell, rfl, g1, g2, g3⟩
theorem Rc_st {As : List Value} {ws : Wd} {i : Nat} (hi : i < 6) : Rc (some "java/lang/String") (.ref (1 + i) :: As) ws := by
  intro n hn D A s ad ad0 ac H locs hKn hH hX he
  cases hn
  obtain ⟨cell, g1, g2, g3⟩ := vk_recv hX.2.2.2.2.1 hi hH.2.2.2
  exact ⟨ad (1 + i), As.map (cv ad), cell, rfl, by rw [he (1 + i) (by omega)]; exact g1, g2, g3⟩
/-! behind a call: the heap's frame -/
theorem S_after {A A1 : Nat → Prop} {H0 H H1 : Heap} {locs L : List Loc} (hS : va_S A H0 H locs) (hz : H.size ≤ H1.size) (hk : ∀ q : Nat, q < H.size → ¬ A1 q → H1[q]? = H[q]?) (hF : ∀ q, A1 q → A q) (hL : ∀ q ∈ L, A1 q.base) : va_S A H0 H1 (locs ++ L) :=
  ⟨Nat.le_trans hS.1 hz, fun q h1 h2 => by rw [hk q (Nat.lt_of_lt_of_le h1 hS.1) (fun z => h2 (hF q z))]; exact hS.2.1 q h1 h2, fun q hq => by
    rcases List.mem_append.mp hq with h | h
    · exact hS.2.2 q h
    · exact hF _ (hL q h)⟩
theorem map_oret (f : Nat → Nat) (r : Option Value) (rest : List Value) : (r.map (cv f)).toList ++ rest.map (cv f) = (r.toList ++ rest).map (cv f) := by cases r <;> simp
section Frame
variable {K K2 : Kt} {pc : Nat} {ls : List (Option Value)} {As rest : List Value} {ws : Wd} {cel slo : Nat} {Q : Option Value → Wd → Prop} {C : Option String} {na : Nat}
/-- a call in the caller's own world, that makes nothing -/
theorem V_call0 (hS : Site K K2 pc C na) (hrc : Rc C As ws) (hna : As.length = na) (hr8 : (rest.map fun v => v.category).sum ≤ 8) (hmc : K2.2.2.2.2.1.cells = 0) (hms : K2.2.2.2.2.1.slots = 0) (hc : cel ≤ K.2.2.2.2.1.cells) (hs : slo ≤ K.2.2.2.2.1.slots) (hk : Call K2 As ws (fun r ws' => V K (pc + 3) ls (r.toList ++ rest) ws' cel slo Q)) : V K pc ls (As.reverse ++ rest) ws cel slo Q := by
  intro p l e s m args below meth c D A n0 ad0 ac0 Z ad ac H locs lsA hC hR hG hH hL
  obtain ⟨hx, hb, hml, hret, hlk, hown, hnm, hT, hKn, hA, hX, hScr⟩ := id hC
  have hM := hk l D ad ac H.size
  have hF : ∀ q, va_A (cW ad ac ws) H.size q → A q := by
    intro q h
    rcases h with ⟨k, e, h⟩ | h
    · exact hH.2.1.2 k (q, e) h
    · exact hA q (Nat.le_trans hH.2.2.2.1 h)
  have he16 : ∀ k, k < 16 → ad k = ad0 k := fun k hk => (hG.1 k (by omega)).1
  have hPre : ∀ U : State, U.heap = H → s.WarmedH U.vm → va_Pc (As.map (cv ad)) (Pre D ad ac ws H.size) (As.map (cv ad)).toArray U := fun U hU hW =>
    ⟨rfl, by rw [hU], by rw [hU]; exact hH.1, hH.2.1.weaken (fun _ _ _ _ => trivial), hH.2.2.1.moved hW.alike, hT.moved hW, hKn.moved hW.alike, hX.moved hW (fun a h1 h2 => by rw [hU]; exact hH.2.2.2.2.1 a h1 h2) hF he16⟩
  have hrun := hS p l e s m args below meth c H locs cel slo lsA (As.map (cv ad)) (rest.map (cv ad)) _ _ _ hx hb hml hown hT hL.1 (fun n hn => hrc n hn D A s ad ad0 ac H locs hKn hH hX he16) hM (Pre.blind _ D ad ac ws H.size) hPre (by simpa using hna) (by rw [cats_cv]; exact hr8) (by rw [hmc]; exact hc) (by rw [hms]; exact hs)
  rw [List.map_append, List.map_reverse]
  intro T hTh X
  obtain ⟨v, st₀, t, T', L, h0, X', hL', e1, e2, ⟨⟨r, ws', ad', ac', hv, hq, hGr, hP', hD', hAr'⟩, hz, hkk⟩, st⟩ := hrun T hTh X
  obtain ⟨rfl, rfl, hlen⟩ := hGr.2.1 hmc
  cases hv
  rw [h0] at hz hkk
  rw [hmc, hms] at X'
  have hal : s.vm.Alike t.vm := by rw [← e2]; exact X'.warmed.alike
  obtain ⟨t2, a1, b1⟩ := hq p l e s m args below meth c D A n0 ad0 ac0 Z ad' ac' T'.heap (locs ++ L) lsA hC hR ⟨hG.1, fun h => by rw [hlen]; exact hG.2.1 h, by rw [hlen]; exact hG.2.2⟩ ⟨by rw [e1]; exact hP', hD'.weaken (fun _ _ _ h => hF _ h), hAr'.moved hal.symm, S_after hH.2.2.2 (by rw [e1]; exact hz) (fun q h1 h2 => by rw [e1]; exact hkk q h1 h2) hF hL'⟩ hL T' rfl X'
  refine ⟨t2, st t2 ?_, b1⟩
  rw [← map_oret] at a1
  exact a1
/-! a call in a part of the caller's world: pl are the places of the callee's cells -/
def rn (pl : List Nat) (L : Nat) (k : Nat) : Nat := if k < 16 then k else if k - 16 < pl.length then 16 + pl.getD (k - 16) 0 else 16 + L + (k - 16 - pl.length)
def rc (f : Nat → Nat) (c : Cel) : Cel := match c with
  | .inl a => .inl a
  | .inr (.inl (t, fs)) => .inr (.inl (t, fs.map (Option.map f)))
  | .inr (.inr (ci, fs)) => .inr (.inr (ci, fs.map (cv f)))
theorem ctag_rc (f : Nat → Nat) (c : Cel) : ctag (rc f c) = ctag c := by
  match c with
  | .inl (_, _, _) => rfl
  | .inr (.inl (_, _)) => rfl
  | .inr (.inr (_, _)) => rfl
theorem ce_rc (ad f : Nat → Nat) (cA : ClassId) (c : Cel) : ce ad cA (rc f c) = ce (fun k => ad (f k)) cA c := by
  match c with
  | .inl (_, _, _) => rfl
  | .inr (.inl (t, fs)) =>
    have e : (fun i => ((fs.map (Option.map f)).getD i none).map ad) = fun i => (fs.getD i none).map (fun k => ad (f k)) := by
      funext i
      simp only [List.getD_eq_getElem?_getD, List.getElem?_map]
      cases fs[i]? with
      | none => rfl
      | some o => cases o <;> rfl
    show Sum.inl (cA, ((fs.map (Option.map f)).length, _)) = Sum.inl (cA, (fs.length, _))
    rw [List.length_map, e]
  | .inr (.inr (ci, fs)) =>
    show Sum.inr (ci, (fs.map (cv f)).map (cv ad)) = Sum.inr (ci, fs.map (cv fun k => ad (f k)))
    rw [List.map_map]
    congr 2
    apply List.map_congr_left
    intro v _
    exact cv_cv ad f v
def wr (f : Nat → Nat) : Wd → List Nat → Wd → Wd
  | ws, j :: pl, c :: sub => wr f (ws.set j (rc f c)) pl sub
  | ws, _, _ => ws
theorem wr_len (f : Nat → Nat) : ∀ (pl : List Nat) (sub ws : Wd), (wr f ws pl sub).length = ws.length
  | [], sub, ws => by cases sub <;> rfl
  | j :: pl, [], ws => rfl
  | j :: pl, c :: sub, ws => by
    show (wr f (ws.set j (rc f c)) pl sub).length = ws.length
    rw [wr_len f pl sub, List.length_set]
theorem wr_out (f : Nat → Nat) : ∀ (pl : List Nat) (sub ws : Wd) (j : Nat), j ∉ pl → (wr f ws pl sub)[j]? = ws[j]?
  | [], sub, ws, j, _ => by cases sub <;> rfl
  | i :: pl, [], ws, j, _ => rfl
  | i :: pl, c :: sub, ws, j, h => by
    show (wr f (ws.set i (rc f c)) pl sub)[j]? = ws[j]?
    rw [wr_out f pl sub _ j (fun h2 => h (List.mem_cons_of_mem _ h2)), List.getElem?_set, if_neg (fun e : i = j => h (by rw [← e]; exact List.mem_cons_self))]
theorem wr_in (f : Nat → Nat) : ∀ (pl : List Nat) (sub ws : Wd) (i j : Nat) (c : Cel), va_nd pl = true → (∀ j ∈ pl, j < ws.length) → pl[i]? = some j → sub[i]? = some c → (wr f ws pl sub)[j]? = some (rc f c)
  | [], sub, ws, i, j, c, _, _, h, _ => by simp at h
  | p :: pl, [], ws, i, j, c, _, _, _, h => by simp at h
  | p :: pl, d :: sub, ws, i, j, c, hn, hl, h1, h2 => by
    simp only [va_nd, Bool.and_eq_true, decide_eq_true_eq] at hn
    show (wr f (ws.set p (rc f d)) pl sub)[j]? = some (rc f c)
    match i, h1, h2 with
    | 0, h1, h2 =>
      simp at h1 h2
      subst h1; subst h2
      rw [wr_out f pl sub _ p hn.1, List.getElem?_set, if_pos rfl, if_pos (hl p List.mem_cons_self)]
    | i + 1, h1, h2 =>
      exact wr_in f pl sub _ i j c hn.2 (fun j hj => by rw [List.length_set]; exact hl j (List.mem_cons_of_mem _ hj)) (by simpa using h1) (by simpa using h2)
theorem map_some_len {α : Type} {pl : List Nat} {sub : List α} {f : Nat → Option α} (h : pl.map f = sub.map some) : pl.length = sub.length := by
  have := congrArg List.length h
  simpa using this
theorem map_some_at {pl : List Nat} {ws sub : Wd} {f : Nat → Nat} (h : pl.map (fun j => ws[j]?) = (sub.map (rc f)).map some) {i j : Nat} (hj : pl[i]? = some j) : ∃ c, sub[i]? = some c ∧ ws[j]? = some (rc f c) := by
  have h1 : (pl.map (fun j => ws[j]?))[i]? = some (ws[j]?) := by rw [List.getElem?_map, hj]; rfl
  rw [h, List.getElem?_map, List.getElem?_map] at h1
  cases hs : sub[i]? with
  | none => rw [hs] at h1; cases h1
  | some c => rw [hs] at h1; exact ⟨c, rfl, (Option.some.inj h1).symm⟩
theorem rn_in {pl : List Nat} {L i j : Nat} (h : pl[i]? = some j) : rn pl L (16 + i) = 16 + j := by
  have hi : i < pl.length := (List.getElem?_eq_some_iff.mp h).1
  unfold rn
  rw [if_neg (by omega), if_pos (by omega), show 16 + i - 16 = i by omega, List.getD_eq_getElem?_getD, h]
  rfl
/-- a call in a part of the caller's world, that makes nothing -/
theorem V_callF (pl : List Nat) (sub : Wd) (Bs : List Value) (hS : Site K K2 pc C na) (hpl : pl.map (fun j => ws[j]?) = (sub.map (rc (rn pl ws.length))).map some) (hnd : va_nd pl = true) (hAs : As = Bs.map (cv (rn pl ws.length))) (hrc : Rc C As ws) (hna : As.length = na) (hr8 : (rest.map fun v => v.category).sum ≤ 8) (hmc : K2.2.2.2.2.1.cells = 0) (hms : K2.2.2.2.2.1.slots = 0) (hc : cel ≤ K.2.2.2.2.1.cells) (hs : slo ≤ K.2.2.2.2.1.slots)
    (hk : Call K2 Bs sub (fun r sub' => V K (pc + 3) ls ((r.map (cv (rn pl ws.length))).toList ++ rest) (wr (rn pl ws.length) ws pl sub') cel slo Q)) : V K pc ls (As.reverse ++ rest) ws cel slo Q := by
  intro p l e s m args below meth c D A n0 ad0 ac0 Z ad ac H locs lsA hC hR hG hH hL
  obtain ⟨hx, hb, hml, hret, hlk, hown, hnm, hT, hKn, hA, hX, hScr⟩ := id hC
  have hlen0 : pl.length = sub.length := by rw [map_some_len hpl, List.length_map]
  generalize hfe : rn pl ws.length = f at hpl hAs hk
  have hin : ∀ {i j : Nat}, pl[i]? = some j → f (16 + i) = 16 + j := fun h => by rw [← hfe]; exact rn_in h
  have h16 : ∀ k, k < 16 → f k = k := fun k hk => by rw [← hfe]; unfold rn; rw [if_pos hk]
  have hplt : ∀ j ∈ pl, j < ws.length := by
    intro j hj
    obtain ⟨i, hi⟩ := List.getElem?_of_mem hj
    obtain ⟨c0, -, h2⟩ := map_some_at hpl hi
    exact (List.getElem?_eq_some_iff.mp h2).1
  have hM := hk l D (fun k => ad (f k)) (fun k => ac (f k)) H.size
  have hsub : ∀ (i : Nat) (q : Nat × va_E), (cW (fun k => ad (f k)) (fun k => ac (f k)) sub)[i]? = some q → ∃ j, pl[i]? = some j ∧ (cW ad ac ws)[j]? = some q := by
    intro i q hq
    obtain ⟨c0, h1, h2⟩ := cW_inv hq
    have hi : i < pl.length := by rw [hlen0]; exact (List.getElem?_eq_some_iff.mp h1).1
    obtain ⟨j, hj⟩ : ∃ j, pl[i]? = some j := ⟨pl[i], List.getElem?_eq_getElem hi⟩
    obtain ⟨c1, h3, h4⟩ := map_some_at hpl hj
    cases h1.symm.trans h3
    refine ⟨j, hj, ?_⟩
    rw [cW_at h4, h2, ce_rc, hin hj]
  have hF1 : ∀ q, va_A (cW (fun k => ad (f k)) (fun k => ac (f k)) sub) H.size q → A q := by
    intro q h
    rcases h with ⟨k, e, h⟩ | h
    · obtain ⟨j, -, h2⟩ := hsub k (q, e) h
      exact hH.2.1.2 j (q, e) h2
    · exact hA q (Nat.le_trans hH.2.2.2.1 h)
  have he16 : ∀ k, k < 16 → ad k = ad0 k := fun k hk => (hG.1 k (by omega)).1
  have hPsub : va_P D clsL (cW (fun k => ad (f k)) (fun k => ac (f k)) sub) H := by
    intro i q hq
    obtain ⟨j, -, h2⟩ := hsub i q hq
    exact hH.1 j q h2
  have hDsub : va_D (fun _ => True) (cW (fun k => ad (f k)) (fun k => ac (f k)) sub) := by
    refine ⟨fun i j x y hx hy hxy => ?_, fun _ _ _ => trivial⟩
    obtain ⟨i1, h1, h2⟩ := hsub i x hx
    obtain ⟨j1, h3, h4⟩ := hsub j y hy
    have := hH.2.1.1 i1 j1 x y h2 h4 hxy
    subst this
    exact va_nd_inj pl hnd i j i1 h1 h3
  have hArsub : Ar (fun k => ac (f k)) sub s := by
    intro i t c0 h1 h2
    have hi : i < pl.length := by rw [hlen0]; exact (List.getElem?_eq_some_iff.mp h1).1
    obtain ⟨j, hj⟩ : ∃ j, pl[i]? = some j := ⟨pl[i], List.getElem?_eq_getElem hi⟩
    obtain ⟨c1, h3, h4⟩ := map_some_at hpl hj
    cases h1.symm.trans h3
    have := hH.2.2.1 j t (rc f c0) h4 ((ctag_rc f c0).trans h2)
    dsimp only
    rw [hin hj]
    exact this
  have hPre : ∀ U : State, U.heap = H → s.WarmedH U.vm → va_Pc (Bs.map (cv fun k => ad (f k))) (Pre D (fun k => ad (f k)) (fun k => ac (f k)) sub H.size) (Bs.map (cv fun k => ad (f k))).toArray U := fun U hU hW =>
    ⟨rfl, by rw [hU], by rw [hU]; exact hPsub, hDsub, hArsub.moved hW.alike, hT.moved hW, hKn.moved hW.alike, hX.moved hW (fun a h1 h2 => by rw [hU]; exact hH.2.2.2.2.1 a h1 h2) hF1 (fun k hk => by rw [h16 k hk]; exact he16 k hk)⟩
  have hBs : As.map (cv ad) = Bs.map (cv fun k => ad (f k)) := by
    rw [hAs, List.map_map]
    apply List.map_congr_left
    intro v _
    exact cv_cv ad f v
  have hrun := hS p l e s m args below meth c H locs cel slo lsA (Bs.map (cv fun k => ad (f k))) (rest.map (cv ad)) _ _ _ hx hb hml hown hT hL.1 (fun n hn => by rw [← hBs]; exact hrc n hn D A s ad ad0 ac H locs hKn hH hX he16) hM (Pre.blind _ D _ _ sub H.size) hPre (by rw [← hBs]; simpa using hna) (by rw [cats_cv]; exact hr8) (by rw [hmc]; exact hc) (by rw [hms]; exact hs)
  rw [List.map_append, List.map_reverse, hBs]
  intro T hTh X
  obtain ⟨v, st₀, t, T', L, h0, X', hL', e1, e2, ⟨⟨r, sub', ad', ac', hv, hq, hGr, hP', hD', hAr'⟩, hz, hkk⟩, st⟩ := hrun T hTh X
  obtain ⟨rfl, rfl, hlen⟩ := hGr.2.1 hmc
  cases hv
  rw [h0] at hz hkk
  rw [hmc, hms] at X'
  have hal : s.vm.Alike t.vm := by rw [← e2]; exact X'.warmed.alike
  have hlw := wr_len f pl sub' ws
  have hcase : ∀ (j : Nat) (c0 : Cel), (wr f ws pl sub')[j]? = some c0 → (∃ (i : Nat) (c1 : Cel), pl[i]? = some j ∧ sub'[i]? = some c1 ∧ c0 = rc f c1) ∨ (j ∉ pl ∧ ws[j]? = some c0) := by
    intro j c0 hj
    by_cases hm : j ∈ pl
    · obtain ⟨i, hi⟩ := List.getElem?_of_mem hm
      have hi2 : i < sub'.length := by rw [hlen, ← hlen0]; exact (List.getElem?_eq_some_iff.mp hi).1
      have h3 := wr_in f pl sub' ws i j sub'[i] hnd hplt hi (List.getElem?_eq_getElem hi2)
      rw [hj] at h3
      exact Or.inl ⟨i, sub'[i], hi, List.getElem?_eq_getElem hi2, Option.some.inj h3⟩
    · rw [wr_out f pl sub' ws j hm] at hj
      exact Or.inr ⟨hm, hj⟩
  have hPn : va_P D clsL (cW ad ac (wr f ws pl sub')) t.heap := by
    intro j q hq
    obtain ⟨c0, h1, h2⟩ := cW_inv hq
    rcases hcase j c0 h1 with ⟨i, c1, g1, g2, rfl⟩ | ⟨g1, g2⟩
    · have := hP' i _ (cW_at g2)
      rw [h2, ce_rc]
      rw [hin g1] at this
      exact this
    · have h3 := hH.1 j _ (cW_at g2)
      rw [h2]
      refine h3.kept (hkk _ h3.lt ?_)
      intro hbad
      rcases hbad with ⟨i, e, hb1⟩ | hb1
      · obtain ⟨j1, h5, h6⟩ := hsub i _ hb1
        have := hH.2.1.1 j j1 _ _ (cW_at g2) h6 rfl
        subst this
        exact g1 (List.mem_of_getElem? h5)
      · exact absurd h3.lt (Nat.not_lt.mpr hb1)
  have hDn : va_D A (cW ad ac (wr f ws pl sub')) := by
    have hold : ∀ (j : Nat) (q : Nat × va_E), (cW ad ac (wr f ws pl sub'))[j]? = some q → ∃ e0, (cW ad ac ws)[j]? = some (q.1, e0) := by
      intro j q hq
      obtain ⟨c0, h1, h2⟩ := cW_inv hq
      have hj : j < ws.length := by rw [← hlw]; exact (List.getElem?_eq_some_iff.mp h1).1
      exact ⟨_, by rw [h2]; exact cW_at (List.getElem?_eq_getElem hj)⟩
    refine ⟨fun i j x y hx hy hxy => ?_, fun k q hq => ?_⟩
    · obtain ⟨e3, h3⟩ := hold i x hx
      obtain ⟨e4, h4⟩ := hold j y hy
      exact hH.2.1.1 i j _ _ h3 h4 hxy
    · obtain ⟨e3, h3⟩ := hold k q hq
      exact hH.2.1.2 k (q.1, e3) h3
  have hArn : Ar ac (wr f ws pl sub') s := by
    intro j t0 c0 h1 h2
    rcases hcase j c0 h1 with ⟨i, c1, g1, g2, rfl⟩ | ⟨g1, g2⟩
    · have := (hAr'.moved hal.symm) i t0 c1 g2 ((ctag_rc f c1).symm.trans h2)
      dsimp only at this
      rw [hin g1] at this
      exact this
    · exact hH.2.2.1 j t0 c0 g2 h2
  obtain ⟨t2, a1, b1⟩ := hq p l e s m args below meth c D A n0 ad0 ac0 Z ad ac T'.heap (locs ++ L) lsA hC hR ⟨hG.1, fun h => by rw [hlw]; exact hG.2.1 h, by rw [hlw]; exact hG.2.2⟩ ⟨by rw [e1]; exact hPn, hDn, hArn, S_after hH.2.2.2 (by rw [e1]; exact hz) (fun q h1 h2 => by rw [e1]; exact hkk q h1 h2) hF1 hL'⟩ hL T' rfl X'
  refine ⟨t2, st t2 ?_, b1⟩
  have e3 : (r.map (cv fun k => ad (f k))).toList ++ rest.map (cv ad) = ((r.map (cv f)).toList ++ rest).map (cv ad) := by
    cases r with
    | none => simp
    | some v => simp [cv_cv]
  show Steps _ _ _ (T'.setTop { F0 m pc lsA _ with pc := _, stack := (r.map (cv fun k => ad (f k))).toList ++ rest.map (cv ad) }) t2
  rw [e3]
  exact a1
end Frame
