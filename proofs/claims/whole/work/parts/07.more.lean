section CallA
variable {K K2 : Kt} {pc : Nat} {ls : List (Option Value)} {As rest : List Value} {ws : Wd} {cel slo : Nat} {Q : Option Value → Wd → Prop} {C : Option String} {na : Nat}
/-- a call in a part of the caller's world, that may make cells -/
theorem V_callA (pl : List Nat) (sub : Wd) (Bs : List Value) (hS : Site K K2 pc C na) (hpl : pl.map (fun j => ws[j]?) = (sub.map (rc (rn pl ws.length))).map some) (hnd : va_nd pl = true) (hAs : As = Bs.map (cv (rn pl ws.length))) (hrc : Rc C As ws) (hna : As.length = na) (hr8 : (rest.map fun v => v.category).sum ≤ 8) (hc : cel + K2.2.2.2.2.1.cells ≤ K.2.2.2.2.1.cells) (hs : slo + K2.2.2.2.2.1.slots ≤ K.2.2.2.2.1.slots) (hpos : 0 < K2.2.2.2.2.1.cells) (hclo : clo (16 + ws.length) ls rest ws = true)
    (hk : Call K2 Bs sub (fun r sub' => sub.length ≤ sub'.length → V K (pc + 3) ls ((r.map (cv (rn pl ws.length))).toList ++ rest) (wr (rn pl ws.length) ws pl (sub'.take sub.length) ++ (sub'.drop sub.length).map (rc (rn pl ws.length))) (cel + K2.2.2.2.2.1.cells) (slo + K2.2.2.2.2.1.slots) Q)) : V K pc ls (As.reverse ++ rest) ws cel slo Q := by
  intro p l e s m args below meth c D A n0 ad0 ac0 Z ad ac H locs lsA hC hR hG hH hL
  obtain ⟨hx, hb, hml, hret, hlk, hown, hnm, hT, hKn, hA, hX, hScr⟩ := id hC
  simp only [clo, Bool.and_eq_true] at hclo
  have hlen0 : pl.length = sub.length := by rw [map_some_len hpl, List.length_map]
  generalize hfe : rn pl ws.length = f at hpl hAs hk
  have hin : ∀ {i j : Nat}, pl[i]? = some j → f (16 + i) = 16 + j := fun h => by rw [← hfe]; exact rn_in h
  have h16 : ∀ k, k < 16 → f k = k := fun k hk => by rw [← hfe]; unfold rn; rw [if_pos hk]
  have hfar : ∀ x, f (16 + sub.length + x) = 16 + ws.length + x := fun x => by
    rw [← hfe]; unfold rn; rw [if_neg (by omega), if_neg (by omega)]; omega
  have hplt : ∀ j ∈ pl, j < ws.length := by
    intro j hj
    obtain ⟨i, hi⟩ := List.getElem?_of_mem hj
    obtain ⟨c0, -, h2⟩ := map_some_at hpl hi
    exact (List.getElem?_eq_some_iff.mp h2).1
  have hM := hk l D (fun k => ad (f k)) (fun k => ac (f k)) H.size
  have hsub : ∀ (i : Nat) (q : Nat × va_E), (cW (fun k => ad (f k)) (fun k => ac (f k)) sub)[i]? = some q → ∃ j, pl[i]? = some j ∧ (cW ad ac ws)[j]? = some q := by
    intro i q hq
    obtain ⟨c0, h1, h2⟩ := cW_inv hq
    have hi : i < pl.length := by rw [hlen0]; exact (List.getElem?_eq_some_iff.mp h1).1
    obtain ⟨j, hj⟩ : ∃ j, pl[i]? = some j := ⟨pl[i], List.getElem?_eq_getElem hi⟩
    obtain ⟨c1, h3, h4⟩ := map_some_at hpl hj
    cases h1.symm.trans h3
    refine ⟨j, hj, ?_⟩
    rw [cW_at h4, h2, ce_rc, hin hj]
  have hF1 : ∀ q, va_A (cW (fun k => ad (f k)) (fun k => ac (f k)) sub) H.size q → A q := by
    intro q h
    rcases h with ⟨k, e, h⟩ | h
    · obtain ⟨j, -, h2⟩ := hsub k (q, e) h
      exact hH.2.1.2 j (q, e) h2
    · exact hA q (Nat.le_trans hH.2.2.2.1 h)
  have he16 : ∀ k, k < 16 → ad k = ad0 k := fun k hk => (hG.1 k (by omega)).1
  have hPsub : va_P D clsL (cW (fun k => ad (f k)) (fun k => ac (f k)) sub) H := by
    intro i q hq
    obtain ⟨j, -, h2⟩ := hsub i q hq
    exact hH.1 j q h2
  have hDsub : va_D (fun _ => True) (cW (fun k => ad (f k)) (fun k => ac (f k)) sub) := by
    refine ⟨fun i j x y hx hy hxy => ?_, fun _ _ _ => trivial⟩
    obtain ⟨i1, h1, h2⟩ := hsub i x hx
    obtain ⟨j1, h3, h4⟩ := hsub j y hy
    have := hH.2.1.1 i1 j1 x y h2 h4 hxy
    subst this
    exact va_nd_inj pl hnd i j i1 h1 h3
  have hArsub : Ar (fun k => ac (f k)) sub s := by
    intro i t c0 h1 h2
    have hi : i < pl.length := by rw [hlen0]; exact (List.getElem?_eq_some_iff.mp h1).1
    obtain ⟨j, hj⟩ : ∃ j, pl[i]? = some j := ⟨pl[i], List.getElem?_eq_getElem hi⟩
    obtain ⟨c1, h3, h4⟩ := map_some_at hpl hj
    cases h1.symm.trans h3
    have := hH.2.2.1 j t (rc f c0) h4 ((ctag_rc f c0).trans h2)
    dsimp only
    rw [hin hj]
    exact this
  have hPre : ∀ U : State, U.heap = H → s.WarmedH U.vm → va_Pc (Bs.map (cv fun k => ad (f k))) (Pre D (fun k => ad (f k)) (fun k => ac (f k)) sub H.size) (Bs.map (cv fun k => ad (f k))).toArray U := fun U hU hW =>
    ⟨rfl, by rw [hU], by rw [hU]; exact hPsub, hDsub, hArsub.moved hW.alike, hT.moved hW, hKn.moved hW.alike, hX.moved hW (fun a h1 h2 => by rw [hU]; exact hH.2.2.2.2.1 a h1 h2) hF1 (fun k hk => by rw [h16 k hk]; exact he16 k hk)⟩
  have hBs : As.map (cv ad) = Bs.map (cv fun k => ad (f k)) := by
    rw [hAs, List.map_map]
    apply List.map_congr_left
    intro v _
    exact cv_cv ad f v
  have hrun := hS p l e s m args below meth c H locs cel slo lsA (Bs.map (cv fun k => ad (f k))) (rest.map (cv ad)) _ _ _ hx hb hml hown hT hL.1 (fun n hn => by rw [← hBs]; exact hrc n hn D A s ad ad0 ac H locs hKn hH hX he16) hM (Pre.blind _ D _ _ sub H.size) hPre (by rw [← hBs]; simpa using hna) (by rw [cats_cv]; exact hr8) hc hs
  rw [List.map_append, List.map_reverse, hBs]
  intro T hTh X
  obtain ⟨v, st₀, t, T', L, h0, X', hL', e1, e2, ⟨⟨r, sub', ad', ac', hv, hq, hGr, hP', hD', hAr'⟩, hz, hkk⟩, st⟩ := hrun T hTh X
  cases hv
  rw [h0] at hz hkk
  have hal : s.vm.Alike t.vm := by rw [← e2]; exact X'.warmed.alike
  have hle := hGr.2.2
  let ad2 : Nat → Nat := fun k => if k < 16 + ws.length then ad k else ad' (k - (16 + ws.length) + (16 + sub.length))
  let ac2 : Nat → ClassId := fun k => if k < 16 + ws.length then ac k else ac' (k - (16 + ws.length) + (16 + sub.length))
  have he : ∀ k, k < 16 + ws.length → ad2 k = ad k := fun k hk => if_pos hk
  have ha : ∀ k, k < 16 + ws.length → ac2 k = ac k := fun k hk => if_pos hk
  have hfl : ∀ k, k < 16 + sub.length → f k < 16 + ws.length := by
    intro k hk
    by_cases hk16 : k < 16
    · rw [h16 k hk16]; omega
    · have hi : k - 16 < pl.length := by omega
      have := hin (List.getElem?_eq_getElem hi)
      rw [show 16 + (k - 16) = k by omega] at this
      rw [this]
      have := hplt _ (List.getElem_mem hi)
      omega
  have hadf : ∀ k, ad2 (f k) = ad' k := by
    intro k
    by_cases hk : k < 16 + sub.length
    · rw [he _ (hfl k hk)]
      exact ((hGr.1 k hk).1).symm
    · have := hfar (k - (16 + sub.length))
      rw [show 16 + sub.length + (k - (16 + sub.length)) = k by omega] at this
      rw [this]
      show (if _ then _ else _) = _
      rw [if_neg (by omega)]
      congr 1
      omega
  have hacf : ∀ k, ac2 (f k) = ac' k := by
    intro k
    by_cases hk : k < 16 + sub.length
    · rw [ha _ (hfl k hk)]
      exact ((hGr.1 k hk).2).symm
    · have := hfar (k - (16 + sub.length))
      rw [show 16 + sub.length + (k - (16 + sub.length)) = k by omega] at this
      rw [this]
      show (if _ then _ else _) = _
      rw [if_neg (by omega)]
      congr 1
      omega
  have hadF : (fun k => ad2 (f k)) = ad' := funext hadf
  let wn : Wd := wr f ws pl (sub'.take sub.length) ++ (sub'.drop sub.length).map (rc f)
  have hlw : (wr f ws pl (sub'.take sub.length)).length = ws.length := wr_len f pl _ ws
  have hcase : ∀ (j : Nat) (c0 : Cel), wn[j]? = some c0 → (∃ (i : Nat) (c1 : Cel), f (16 + i) = 16 + j ∧ sub'[i]? = some c1 ∧ c0 = rc f c1) ∨ (j ∉ pl ∧ j < ws.length ∧ ws[j]? = some c0) := by
    intro j c0 hj
    by_cases hjl : j < ws.length
    · have hj : (wr f ws pl (sub'.take sub.length))[j]? = some c0 := by rw [← hj]; exact (List.getElem?_append_left (by rw [hlw]; exact hjl)).symm
      by_cases hm : j ∈ pl
      · obtain ⟨i, hi⟩ := List.getElem?_of_mem hm
        have hi1 : i < sub.length := by rw [← hlen0]; exact (List.getElem?_eq_some_iff.mp hi).1
        have hi2 : i < sub'.length := by omega
        have h4 : (sub'.take sub.length)[i]? = some sub'[i] := by rw [List.getElem?_take, if_pos hi1]; exact List.getElem?_eq_getElem hi2
        have h3 := wr_in f pl (sub'.take sub.length) ws i j sub'[i] hnd hplt hi h4
        rw [hj] at h3
        exact Or.inl ⟨i, sub'[i], hin hi, List.getElem?_eq_getElem hi2, Option.some.inj h3⟩
      · rw [wr_out f pl _ ws j hm] at hj
        exact Or.inr ⟨hm, hjl, hj⟩
    · have hj : ((sub'.drop sub.length).map (rc f))[j - ws.length]? = some c0 := by rw [← hj]; show _ = (_ ++ _)[j]?; rw [List.getElem?_append_right (by rw [hlw]; omega), hlw]
      rw [List.getElem?_map, List.getElem?_drop] at hj
      cases hd : sub'[sub.length + (j - ws.length)]? with
      | none => rw [hd] at hj; cases hj
      | some c1 =>
        rw [hd] at hj
        refine Or.inl ⟨sub.length + (j - ws.length), c1, ?_, hd, (Option.some.inj hj).symm⟩
        have := hfar (j - ws.length)
        rw [show 16 + sub.length + (j - ws.length) = 16 + (sub.length + (j - ws.length)) by omega] at this
        rw [this]; omega
  have hwold : ∀ (j : Nat) (c0 : Cel), ws[j]? = some c0 → (ad2 (16 + j), ce ad2 (ac2 (16 + j)) c0) = (ad (16 + j), ce ad (ac (16 + j)) c0) := by
    intro j c0 hj
    have hl : j < ws.length := (List.getElem?_eq_some_iff.mp hj).1
    rw [he _ (by omega), ha _ (by omega), clo_c he (List.all_eq_true.mp hclo.2.2 c0 (List.mem_of_getElem? hj))]
  have hwnew : ∀ (i j : Nat) (c1 : Cel), f (16 + i) = 16 + j → (ad2 (16 + j), ce ad2 (ac2 (16 + j)) (rc f c1)) = (ad' (16 + i), ce ad' (ac' (16 + i)) c1) := by
    intro i j c1 hf
    rw [ce_rc, hadF, ← hf, hadf, hacf]
  have hPn : va_P D clsL (cW ad2 ac2 wn) t.heap := by
    intro j q hq
    obtain ⟨c0, h1, h2⟩ := cW_inv hq
    rcases hcase j c0 h1 with ⟨i, c1, g1, g2, rfl⟩ | ⟨g1, -, g2⟩
    · rw [h2, hwnew i j c1 g1]
      exact hP' i _ (cW_at g2)
    · have h3 := hH.1 j _ (cW_at g2)
      rw [h2, hwold j c0 g2]
      refine h3.kept (hkk _ h3.lt ?_)
      intro hbad
      rcases hbad with ⟨i, e, hb1⟩ | hb1
      · obtain ⟨j1, h5, h6⟩ := hsub i _ hb1
        have := hH.2.1.1 j j1 _ _ (cW_at g2) h6 rfl
        subst this
        exact g1 (List.mem_of_getElem? h5)
      · exact absurd h3.lt (Nat.not_lt.mpr hb1)
  have hAold : ∀ (j : Nat) (c0 : Cel), j ∉ pl → ws[j]? = some c0 → ¬ va_A (cW (fun k => ad (f k)) (fun k => ac (f k)) sub) H.size (ad (16 + j)) := by
    intro j c0 g1 g2 hbad
    have h3 := hH.1 j _ (cW_at (ad := ad) (ac := ac) g2)
    rcases hbad with ⟨i, e, hb1⟩ | hb1
    · obtain ⟨j1, h5, h6⟩ := hsub i _ hb1
      have := hH.2.1.1 j j1 _ _ (cW_at g2) h6 rfl
      subst this
      exact g1 (List.mem_of_getElem? h5)
    · exact absurd h3.lt (Nat.not_lt.mpr hb1)
  have hDn : va_D A (cW ad2 ac2 wn) := by
    refine ⟨fun i j x y hx hy hxy => ?_, fun j q hq => ?_⟩
    · obtain ⟨c0, h1, rfl⟩ := cW_inv hx
      obtain ⟨d0, h2, rfl⟩ := cW_inv hy
      dsimp only at hxy
      rcases hcase i c0 h1 with ⟨i1, c1, g1, g2, rfl⟩ | ⟨g1, g0, g2⟩
      · rcases hcase j d0 h2 with ⟨j1, d1, k1, k2, rfl⟩ | ⟨k1, k0, k2⟩
        · have hh : i1 = j1 := hD'.1 i1 j1 _ _ (cW_at g2) (cW_at k2) (by show ad' (16 + i1) = ad' (16 + j1); rw [← hadf, ← hadf, g1, k1]; exact hxy)
          subst hh
          omega
        · exfalso
          refine hAold j d0 k1 k2 ?_
          have := hD'.2 i1 _ (cW_at g2)
          dsimp only at this
          rw [← hadf, g1, hxy, he _ (by omega)] at this
          exact this
      · rcases hcase j d0 h2 with ⟨j1, d1, k1, k2, rfl⟩ | ⟨k1, k0, k2⟩
        · exfalso
          refine hAold i c0 g1 g2 ?_
          have := hD'.2 j1 _ (cW_at k2)
          dsimp only at this
          rw [← hadf, k1, ← hxy, he _ (by omega)] at this
          exact this
        · refine hH.2.1.1 i j _ _ (cW_at g2) (cW_at k2) ?_
          show ad (16 + i) = ad (16 + j)
          rw [← he _ (show 16 + i < 16 + ws.length by omega), ← he _ (show 16 + j < 16 + ws.length by omega)]
          exact hxy
    · obtain ⟨c0, h1, rfl⟩ := cW_inv hq
      rcases hcase j c0 h1 with ⟨i1, c1, g1, g2, rfl⟩ | ⟨g1, g0, g2⟩
      · have := hF1 _ (hD'.2 i1 _ (cW_at g2))
        dsimp only at this
        rw [← hadf, g1] at this
        exact this
      · have := hH.2.1.2 j _ (cW_at g2)
        dsimp only at this ⊢
        rw [he _ (by omega)]
        exact this
  have hArn : Ar ac2 wn s := by
    intro j t0 c0 h1 h2
    rcases hcase j c0 h1 with ⟨i, c1, g1, g2, rfl⟩ | ⟨g1, g0, g2⟩
    · have := (hAr'.moved hal.symm) i t0 c1 g2 ((ctag_rc f c1).symm.trans h2)
      rw [← hacf, g1] at this
      exact this
    · rw [ha _ (by omega)]
      exact hH.2.2.1 j t0 c0 g2 h2
  obtain ⟨t2, a1, b1⟩ := hq hle p l e s m args below meth c D A n0 ad0 ac0 Z ad2 ac2 T'.heap (locs ++ L) lsA hC hR ⟨fun k hk => ⟨(he k (by have := hG.2.2; omega)).trans (hG.1 k hk).1, (ha k (by have := hG.2.2; omega)).trans (hG.1 k hk).2⟩, fun h => by omega, by have := hG.2.2; show n0 ≤ (_ ++ _ : List Cel).length; rw [List.length_append, hlw]; omega⟩ ⟨by rw [e1]; exact hPn, hDn, hArn, S_after hH.2.2.2 (by rw [e1]; exact hz) (fun q h1 h2 => by rw [e1]; exact hkk q h1 h2) hF1 hL'⟩ (hL.grow he hclo.1) T' rfl X'
  refine ⟨t2, st t2 ?_, b1⟩
  have e3 : (r.map (cv ad')).toList ++ rest.map (cv ad) = ((r.map (cv f)).toList ++ rest).map (cv ad2) := by
    rw [List.map_append, clo_vs he hclo.2.1]
    congr 1
    cases r with
    | none => rfl
    | some v => simp [cv_cv, hadF]
  show Steps _ _ _ (T'.setTop { F0 m pc lsA _ with pc := _, stack := (r.map (cv ad')).toList ++ rest.map (cv ad) }) t2
  rw [e3]
  exact a1
end CallA
