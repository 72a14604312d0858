theorem tkR_le {f : Nat → Int32} {l p : Nat} (hp : p ≤ l) : p ≤ (tkR f l p).2.1 ∧ (tkR f l p).2.1 ≤ (tkR f l p).2.2.2 ∧ (tkR f l p).2.2.2 ≤ l := by
  have h0 : p ≤ tS f l p ∧ tS f l p ≤ l := scn_in (isB f) hp
  unfold tkR
  split
  · exact ⟨h0.1, Nat.le_refl _, h0.2⟩
  · rename_i hlt
    split
    · have := scn_in (isL f) h0.2
      exact ⟨h0.1, this.1, this.2⟩
    · split
      · have := scn_in (isF f) h0.2
        exact ⟨h0.1, this.1, this.2⟩
      · exact ⟨h0.1, Nat.le_succ _, by show tS f l p + 1 ≤ l; omega⟩
theorem wdF_val (f : Nat → Int32) (s e : Nat) : ∀ w, w ≤ 6 → wdF f s e w = -1 ∨ ∃ x, x < w ∧ wdF f s e w = nI x ∧ spl f s e x
  | 0, _ => Or.inl rfl
  | w + 1, hw => by
    rcases wdF_val f s e w (by omega) with h | ⟨x, h1, h2, h3⟩
    · by_cases hs : spl f s e w
      · exact Or.inr ⟨w, by omega, wdF_y h hs, hs⟩
      · exact Or.inl (wdF_n h hs)
    · refine Or.inr ⟨x, by omega, ?_, h3⟩
      rw [wdF_k (by rw [h2]; intro hh; have := nI_pos' (n := x) (by omega); rw [hh] at this; exact absurd this (by decide)), h2]
theorem tkR_word {f : Nat → Int32} {l p : Nat} (h : (tkR f l p).1 = 0) : ¬ l ≤ tS f l p ∧ isL f (tS f l p) = true ∧ tkR f l p = (0, tS f l p, wdF f (tS f l p) (tW f l (tS f l p)) 6, tW f l (tS f l p)) := by
  unfold tkR at h ⊢
  split at h
  · exact absurd (show (3 : Int32) = 0 from h) (by decide)
  · rename_i h1
    split at h
    · rename_i h2
      exact ⟨h1, h2, by rw [if_neg h1, if_pos h2]⟩
    · split at h
      · split at h
        · exact absurd (show (1 : Int32) = 0 from h) (by decide)
        · exact absurd (show (4 : Int32) = 0 from h) (by decide)
      · split at h
        · exact absurd (show (2 : Int32) = 0 from h) (by decide)
        · exact absurd (show (4 : Int32) = 0 from h) (by decide)
noncomputable def prN (B : Nat → Int32) (l : Nat) : Nat → Nat → Nat → (Nat → Int32) → Nat ⊕ ((Nat → Int32) × Nat)
  | 0, _, p, nm => .inr (nm, p)
  | z + 1, i, p, nm => if (tkR B l p).1 = 1 then prN B l z (i + 1) (tkR B l p).2.2.2 (upd nm i (tkR B l p).2.2.1) else .inl (tkR B l p).2.1
theorem prN_le {B : Nat → Int32} {l : Nat} : ∀ z i p nm nm' p', p ≤ l → prN B l z i p nm = .inr (nm', p') → p ≤ p' ∧ p' ≤ l
  | 0, i, p, nm, nm', p', hp, h => by
    cases h
    exact ⟨Nat.le_refl _, hp⟩
  | z + 1, i, p, nm, nm', p', hp, h => by
    unfold prN at h
    split at h
    · have ht := tkR_le (f := B) hp
      have := prN_le z (i + 1) _ _ nm' p' ht.2.2 h
      omega
    · cases h
def scW (S B nm : Nat → Int32) (c : Ch) : Wd := ssW S B nm ++ (chW c).map (rc (fun k => if k < 16 then k else k + 3))
abbrev plS : List Nat := [0, 1, 2]
abbrev plD : List Nat := [3, 4, 5, 6, 7, 8, 9, 10, 11, 12, 13, 14, 15, 16, 17, 18, 19, 20, 21, 22]
abbrev plDB : List Nat := [9, 10, 11, 12, 13, 14, 15, 16, 17, 18, 19, 20]
theorem ptS (S B nm : Nat → Int32) (c : Ch) : Pt2 plS (ssW S B nm) (scW S B nm c) := by
  have e : (scW S B nm c).length = 23 := rfl
  unfold Pt2
  rw [e]
  simp only [plS, scW, ssW, chW, List.map_cons, List.map_nil, List.cons_append, List.nil_append, List.getElem?_cons_zero, List.getElem?_cons_succ]
  rfl
theorem ptD (S B nm : Nat → Int32) (c : Ch) : Pt2 plD (chW c) (scW S B nm c) := by
  have e : (scW S B nm c).length = 23 := rfl
  unfold Pt2
  rw [e]
  simp only [plD, scW, ssW, chW, List.map_cons, List.map_nil, List.cons_append, List.nil_append, List.getElem?_cons_zero, List.getElem?_cons_succ]
  rfl
theorem ptDB (S B nm : Nat → Int32) (c : Ch) : Pt2 plDB (bnW (c.1 8) c.2) (scW S B nm c) := by
  have e : (scW S B nm c).length = 23 := rfl
  unfold Pt2
  rw [e]
  simp only [plDB, scW, ssW, chW, bnW, List.map_cons, List.map_nil, List.cons_append, List.nil_append, List.getElem?_cons_zero, List.getElem?_cons_succ]
  rfl
theorem wrS (S B nm S2 B2 nm2 : Nat → Int32) (c : Ch) : wr (rn plS 23) (scW S B nm c) plS (ssW S2 B2 nm2) = scW S2 B2 nm2 c := by
  simp only [plS, scW, ssW, chW, List.map_cons, List.map_nil, List.cons_append, List.nil_append, wr, List.set_cons_succ, List.set_cons_zero]
  rfl
theorem wrD (S B nm : Nat → Int32) (c e : Ch) : wr (rn plD 23) (scW S B nm c) plD (chW e) = scW S B nm e := by
  simp only [plD, scW, ssW, chW, List.map_cons, List.map_nil, List.cons_append, List.nil_append, wr, List.set_cons_succ, List.set_cons_zero]
  rfl
theorem wrDB (S B nm : Nat → Int32) (c : Ch) (m : Int32) (a : Nat → Nat → Int32) : wr (rn plDB 23) (scW S B nm c) plDB (bnW m a) = scW S B nm (upd c.1 8 m, fun j => if 7 ≤ j then a j else c.2 j) := by
  simp only [plDB, scW, ssW, chW, bnW, List.map_cons, List.map_nil, List.cons_append, List.nil_append, wr, List.set_cons_succ, List.set_cons_zero]
  rfl
theorem chW_member (c : Ch) (x p f t : Int32) : chW (upd c.1 8 ((fMember c x p f t).2.1 8), fun j => if 7 ≤ j then (fMember c x p f t).2.2 j else c.2 j) = chW (fMember c x p f t).2 := by
  unfold fMember
  split
  · split
    · rfl
    · rfl
  · rfl
theorem chW_dropM (c : Ch) : chW (upd c.1 8 ((fDropM c).2.1 8), fun j => if 7 ≤ j then (fDropM c).2.2 j else c.2 j) = chW (fDropM c).2 := by
  unfold fDropM
  split
  · rfl
  · rfl
theorem scW_of {S B nm : Nat → Int32} {c e : Ch} (h : chW c = chW e) : scW S B nm c = scW S B nm e := by unfold scW; rw [h]
def tellF (c : Ch) (w : Nat) (nm : Nat → Int32) : Int32 × Ch := match w with
  | 0 => fCandle c (nm 0)
  | 1 => fThick c (nm 0) (nm 1)
  | 2 => fDoor c (nm 0)
  | 3 => fOpen c (nm 0) 1
  | 4 => fPin c (nm 0) (nm 1)
  | _ => fMember c (nm 0) (nm 1) (nm 2) (nm 3)
def COkE (c : Ch) : Prop := ∃ n d p u k, COk c n d p u k
theorem tellF_ok {c : Ch} {w : Nat} {nm : Nat → Int32} (h : w = 0 ∨ COkE c) (h2 : ¬ (tellF c w nm).1 < 0) : COkE (tellF c w nm).2 := by
  match w, h, h2 with
  | 0, _, h2 =>
    have e : tellF c 0 nm = fCandle c (nm 0) := rfl
    rw [e] at h2 ⊢
    unfold fCandle at h2 ⊢
    split
    · rename_i hv
      have := (lgt_ok (c := c) hv.1 hv.2).1
      exact ⟨_, _, _, _, _, this⟩
    · rename_i hv
      rw [if_neg hv] at h2
      exact absurd (show (-2 : Int32) < 0 by decide) h2
  | 1, h, _ =>
    obtain ⟨n, d, p, u, k, hc⟩ := h.resolve_left (by decide)
    exact ⟨_, _, _, _, _, fThick_ok (x := nm 0) (y := nm 1) hc⟩
  | 2, h, _ =>
    obtain ⟨n, d, p, u, k, hc⟩ := h.resolve_left (by decide)
    obtain ⟨d', h⟩ := fDoor_ok (x := nm 0) hc
    exact ⟨_, _, _, _, _, h⟩
  | 3, h, _ =>
    obtain ⟨n, d, p, u, k, hc⟩ := h.resolve_left (by decide)
    exact ⟨_, _, _, _, _, fOpen_ok (x := nm 0) (y := 1) hc⟩
  | 4, h, _ =>
    obtain ⟨n, d, p, u, k, hc⟩ := h.resolve_left (by decide)
    obtain ⟨d', h⟩ := fPin_ok (x := nm 0) (y := nm 1) hc
    exact ⟨_, _, _, _, _, h⟩
  | w + 5, h, _ =>
    obtain ⟨n, d, p, u, k, hc⟩ := h.resolve_left (by omega)
    obtain ⟨d', h⟩ := fMember_ok (x := nm 0) (pa := nm 1) (f := nm 2) (t := nm 3) hc
    exact ⟨_, _, _, _, _, h⟩
section Tell
variable {S B nm : Nat → Int32} {Q : Int32 → Wd → Prop} {R : Wd → Prop} {ws : Wd} {l p s i w : Nat} {x : Int32} {c : Ch}
theorem S_takeStop (hl : S 0 = nI l) (hl2 : l ≤ 150) (hp : S 1 = nI p) (hpl : p ≤ l) (h1 : (tkR B l p).1 = 2 → Q 1 (ssW (tkS S (tkR B l p)) B nm)) (h0 : ¬ (tkR B l p).1 = 2 → Q 0 (ssW (tkS S (tkR B l p)) B nm)) : CallI kX6_takeStop [.ref 16] (ssW S B nm) Q := by
  refine e_X6_takeStop ?_
  refine iX6_takeStop_0 (iX6_takeStop_1 rfl (Nat.le_of_ble_eq_true rfl) (S_takeToken hl hl2 hp hpl (iX6_takeStop_4 (iX6_takeStop_5 rfl rfl (iX6_takeStop_8 ?_)))))
  refine iX6_takeStop_9 (fun g => ?_) (fun g => ?_)
  · refine iX6_takeStop_16 ?_
    exact iX6_takeStop_17 rfl (h0 g)
  · refine iX6_takeStop_12 (iX6_takeStop_13 ?_)
    exact iX6_takeStop_17 rfl (h1 g)
theorem S_takeNumbers {z0 : Nat} (hz : z0 ≤ 4) (hl : S 0 = nI l) (hl2 : l ≤ 150) (hp : S 1 = nI p) (hpl : p ≤ l) (h1 : ∀ S2 nm2 p2, prN B l z0 0 p nm = .inr (nm2, p2) → S2 0 = nI l → S2 1 = nI p2 → p2 ≤ l → Q 1 (ssW S2 B nm2)) (h0 : ∀ S2 nm2 f, prN B l z0 0 p nm = .inl f → S2 0 = nI l → S2 3 = nI f → Q 0 (ssW S2 B nm2)) : CallI kX6_takeNumbers [.ref 16, .int (nI z0)] (ssW S B nm) Q := by
  refine e_X6_takeNumbers ?_
  refine iX6_takeNumbers_0 (iX6_takeNumbers_1 rfl ?_)
  have key : ∀ j, j ≤ z0 → ∀ S2 nm2 q, S2 0 = nI l → S2 1 = nI q → q ≤ l → prN B l (z0 - j) j q nm2 = prN B l z0 0 p nm → V kX6_takeNumbers 2 [some (.ref 16), some (.int (nI z0)), some (.int (nI j))] [] (ssW S2 B nm2) 0 0 (qI Q) := by
    refine dn z0 ?_
    intro j hj ih S2 nm2 q hl3 hq hql he
    refine iX6_takeNumbers_2 (iX6_takeNumbers_3 ?_)
    refine iX6_takeNumbers_4 (fun g => ?_) (fun g => ?_)
    · have e := eq_of hj (by omega) g
      subst e
      rw [Nat.sub_self] at he
      refine iX6_takeNumbers_46 ?_
      exact iX6_takeNumbers_47 rfl (h1 S2 nm2 q he.symm hl3 hq hql)
    · have hlt := nlt_of (by omega) g
      have e1 : nI j + 1 = nI (j + 1) := nI_1 j
      have e2 : prN B l (z0 - j) j q nm2 = if (tkR B l q).1 = 1 then prN B l (z0 - (j + 1)) (j + 1) (tkR B l q).2.2.2 (upd nm2 j (tkR B l q).2.2.1) else .inl (tkR B l q).2.1 := by
        rw [show z0 - j = (z0 - (j + 1)) + 1 by omega]
        rfl
      have hle := tkR_le (f := B) hql
      refine iX6_takeNumbers_7 (iX6_takeNumbers_8 (iX6_takeNumbers_9 rfl rfl (iX6_takeNumbers_12 rfl (iX6_takeNumbers_13 (fun h => False.elim (by (have := (nI_leI (a := 4) (b := j) (by omega) (by omega)).mp h; omega))) (fun _ => (iX6_takeNumbers_16 (iX6_takeNumbers_17 rfl (Nat.le_of_ble_eq_true rfl) (S_takeToken hl3 hl2 hq hql (iX6_takeNumbers_20 (iX6_takeNumbers_21 rfl rfl (iX6_takeNumbers_24 ?_)))))))))))
      refine iX6_takeNumbers_25 (fun g2 => ?_) (fun g2 => ?_)
      · have g2 : (tkR B l q).1 = 1 := g2
        rw [if_pos g2] at e2
        refine iX6_takeNumbers_30 (iX6_takeNumbers_31 rfl rfl (iX6_takeNumbers_34 (iX6_takeNumbers_35 (iX6_takeNumbers_36 rfl rfl (iX6_takeNumbers_39 rfl rfl (by omega) (by decide) ?_)))))
        refine iX6_takeNumbers_40 rfl (iX6_takeNumbers_43 ?_)
        rw [e1]
        exact ih hlt (tkS S2 (tkR B l q)) (upd nm2 j (tkR B l q).2.2.1) (tkR B l q).2.2.2 hl3 rfl hle.2.2 (e2.symm.trans he)
      · have g2 : ¬ (tkR B l q).1 = 1 := g2
        rw [if_neg g2] at e2
        refine iX6_takeNumbers_28 ?_
        exact iX6_takeNumbers_29 rfl (h0 (tkS S2 (tkR B l q)) nm2 _ (he.symm.trans e2) hl3 rfl)
  exact key 0 (Nat.zero_le _) S nm p hl hp hpl rfl
theorem S_beginsItem (hi : i ≤ 150) (h1 : S 2 = 0 → ¬ S 4 = -1 → (S 4 = 0 ↔ i = 0) → Q 1 (ssW S B nm)) (h0 : ¬ (S 2 = 0 ∧ ¬ S 4 = -1 ∧ (S 4 = 0 ↔ i = 0)) → Q 0 (ssW S B nm)) : CallI kX6_beginsItem [.ref 16, .int (nI i)] (ssW S B nm) Q := by
  have hz : nI i = 0 ↔ i = 0 := ⟨fun e => (nI_eq (by omega) (by omega)).mp (show nI i = nI 0 from e), fun e => by rw [e]; rfl⟩
  refine e_X6_beginsItem ?_
  have no : ¬ (S 2 = 0 ∧ ¬ S 4 = -1 ∧ (S 4 = 0 ↔ i = 0)) → V kX6_beginsItem 43 [some (.ref 16), some (.int (nI i))] [] (ssW S B nm) 0 0 (qI Q) := by
    intro z
    refine iX6_beginsItem_43 ?_
    exact iX6_beginsItem_44 rfl (h0 z)
  refine iX6_beginsItem_0 (iX6_beginsItem_1 rfl rfl ?_)
  refine iX6_beginsItem_4 (fun g => ?_) (fun g => ?_)
  · exact no (fun z => g z.1)
  · refine iX6_beginsItem_7 (iX6_beginsItem_8 rfl rfl (iX6_beginsItem_11 ?_))
    refine iX6_beginsItem_12 (fun g2 => ?_) (fun g2 => ?_)
    · exact no (fun z => z.2.1 g2)
    · have step : ∀ A : Int32, (A = 1 ∧ S 4 = 0 ∨ A = 0 ∧ ¬ S 4 = 0) → V kX6_beginsItem 27 [some (.ref 16), some (.int (nI i))] [.int A] (ssW S B nm) 0 0 (qI Q) := by
        intro A hA
        refine iX6_beginsItem_27 ?_
        refine iX6_beginsItem_28 (fun g3 => ?_) (fun g3 => ?_)
        · have hi0 : ¬ i = 0 := fun e => g3 (hz.mpr e)
          refine iX6_beginsItem_35 ?_
          rcases hA with ⟨rfl, hA⟩ | ⟨rfl, hA⟩
          · refine iX6_beginsItem_36 (fun _ => ?_) (fun h => False.elim (by revert h; decide))
            exact no (fun z => hi0 (z.2.2.mp hA))
          · refine iX6_beginsItem_36 (fun h => False.elim (by revert h; decide)) (fun _ => (iX6_beginsItem_39 (iX6_beginsItem_40 ?_)))
            exact iX6_beginsItem_44 rfl (h1 g g2 ⟨fun z => absurd z hA, fun z => absurd z hi0⟩)
        · have hi0 : i = 0 := hz.mp g3
          refine iX6_beginsItem_31 (iX6_beginsItem_32 ?_)
          rcases hA with ⟨rfl, hA⟩ | ⟨rfl, hA⟩
          · refine iX6_beginsItem_36 (fun h => False.elim (by revert h; decide)) (fun _ => (iX6_beginsItem_39 (iX6_beginsItem_40 ?_)))
            exact iX6_beginsItem_44 rfl (h1 g g2 ⟨fun _ => hi0, fun _ => hA⟩)
          · refine iX6_beginsItem_36 (fun _ => ?_) (fun h => False.elim (by revert h; decide))
            exact no (fun z => hA (z.2.2.mpr hi0))
      refine iX6_beginsItem_15 (iX6_beginsItem_16 rfl rfl ?_)
      refine iX6_beginsItem_19 (fun g3 => ?_) (fun g3 => ?_)
      · refine iX6_beginsItem_26 ?_
        exact step 0 (Or.inr ⟨rfl, g3⟩)
      · refine iX6_beginsItem_22 (iX6_beginsItem_23 ?_)
        exact step 1 (Or.inl ⟨rfl, g3⟩)
theorem S_tellItem (hw : w < 6) (hc : w = 0 ∨ COkE c) (h : Q (tellF c w nm).1 (scW S B nm (tellF c w nm).2)) : CallI kX6_tellItem [.ref 16, .ref 19, .int (nI w)] (scW S B nm c) Q := by
  refine e_X6_tellItem ?_
  refine iX6_tellItem_0 ?_
  match w, hw, hc, h with
  | 0, _, _, h =>
    refine iX6_tellItem_1_0 ?_
    refine iX6_tellItem_36 (iX6_tellItem_37 (iX6_tellItem_38 rfl rfl (iX6_tellItem_41 (iX6_tellItem_42 (j := 0) rfl rfl (by decide) (by decide) ?_))))
    refine iX6_tellItem_43F plD (chW c) [.ref 16, .int (nm 0)] (ptD S B nm c) (by decide) rfl rfl (Nat.le_of_ble_eq_true rfl) (F_candle ?_)
    change V kX6_tellItem 46 _ _ (wr (rn plD 23) _ plD _) 0 0 _
    rw [wrD]
    exact iX6_tellItem_46 h
  | 1, _, hc, h =>
    obtain ⟨n, d, p, u, k, hc⟩ := hc.resolve_left (by decide)
    refine iX6_tellItem_1_1 ?_
    refine iX6_tellItem_47 (iX6_tellItem_48 (iX6_tellItem_49 rfl rfl (iX6_tellItem_52 (iX6_tellItem_53 (j := 0) rfl rfl (by decide) (by decide) (iX6_tellItem_54 (iX6_tellItem_55 rfl rfl (iX6_tellItem_58 (iX6_tellItem_59 (j := 1) rfl rfl (by decide) (by decide) ?_))))))))
    refine iX6_tellItem_60F plD (chW c) [.ref 16, .int (nm 0), .int (nm 1)] (ptD S B nm c) (by decide) rfl rfl (Nat.le_of_ble_eq_true rfl) (F_thick hc ?_)
    change V kX6_tellItem 63 _ _ (wr (rn plD 23) _ plD _) 0 0 _
    rw [wrD]
    exact iX6_tellItem_63 h
  | 2, _, hc, h =>
    obtain ⟨n, d, p, u, k, hc⟩ := hc.resolve_left (by decide)
    refine iX6_tellItem_1_2 ?_
    refine iX6_tellItem_64 (iX6_tellItem_65 (iX6_tellItem_66 rfl rfl (iX6_tellItem_69 (iX6_tellItem_70 (j := 0) rfl rfl (by decide) (by decide) ?_))))
    refine iX6_tellItem_71F plD (chW c) [.ref 16, .int (nm 0)] (ptD S B nm c) (by decide) rfl rfl (Nat.le_of_ble_eq_true rfl) (F_door hc ?_)
    change V kX6_tellItem 74 _ _ (wr (rn plD 23) _ plD _) 0 0 _
    rw [wrD]
    exact iX6_tellItem_74 h
  | 3, _, hc, h =>
    obtain ⟨n, d, p, u, k, hc⟩ := hc.resolve_left (by decide)
    refine iX6_tellItem_1_3 ?_
    refine iX6_tellItem_75 (iX6_tellItem_76 (iX6_tellItem_77 rfl rfl (iX6_tellItem_80 (iX6_tellItem_81 (j := 0) rfl rfl (by decide) (by decide) (iX6_tellItem_82 ?_)))))
    refine iX6_tellItem_83F plD (chW c) [.ref 16, .int (nm 0), .int 1] (ptD S B nm c) (by decide) rfl rfl (Nat.le_of_ble_eq_true rfl) (F_open hc (Or.inr rfl) ?_)
    change V kX6_tellItem 86 _ _ (wr (rn plD 23) _ plD _) 0 0 _
    rw [wrD]
    exact iX6_tellItem_86 h
  | 4, _, hc, h =>
    obtain ⟨n, d, p, u, k, hc⟩ := hc.resolve_left (by decide)
    refine iX6_tellItem_1_4 ?_
    refine iX6_tellItem_87 (iX6_tellItem_88 (iX6_tellItem_89 rfl rfl (iX6_tellItem_92 (iX6_tellItem_93 (j := 0) rfl rfl (by decide) (by decide) (iX6_tellItem_94 (iX6_tellItem_95 rfl rfl (iX6_tellItem_98 (iX6_tellItem_99 (j := 1) rfl rfl (by decide) (by decide) ?_))))))))
    refine iX6_tellItem_100F plD (chW c) [.ref 16, .int (nm 0), .int (nm 1)] (ptD S B nm c) (by decide) rfl rfl (Nat.le_of_ble_eq_true rfl) (F_pin hc ?_)
    change V kX6_tellItem 103 _ _ (wr (rn plD 23) _ plD _) 0 0 _
    rw [wrD]
    exact iX6_tellItem_103 h
  | 5, _, hc, h =>
    obtain ⟨n, d, p, u, k, hc⟩ := hc.resolve_left (by decide)
    refine iX6_tellItem_1_d (Or.inr (by decide)) ?_
    refine iX6_tellItem_104 (iX6_tellItem_105 rfl rfl (iX6_tellItem_108 (iX6_tellItem_109 rfl rfl (iX6_tellItem_112 (iX6_tellItem_113 (j := 0) rfl rfl (by decide) (by decide) (iX6_tellItem_114 (iX6_tellItem_115 rfl rfl (iX6_tellItem_118 (iX6_tellItem_119 (j := 1) rfl rfl (by decide) (by decide) (iX6_tellItem_120 (iX6_tellItem_121 rfl rfl (iX6_tellItem_124 (iX6_tellItem_125 (j := 2) rfl rfl (by decide) (by decide) (iX6_tellItem_126 (iX6_tellItem_127 rfl rfl (iX6_tellItem_130 (iX6_tellItem_131 (j := 3) rfl rfl (by decide) (by decide) ?_)))))))))))))))))
    refine iX6_tellItem_132F plDB (bnW (c.1 8) c.2) [.ref 16, .int (nm 0), .int (nm 1), .int (nm 2), .int (nm 3)] (ptDB S B nm c) (by decide) rfl rfl (Nat.le_of_ble_eq_true rfl) (B_member hc ?_)
    change V kX6_tellItem 135 _ _ (wr (rn plDB 23) _ plDB _) 0 0 _
    rw [wrDB, scW_of (chW_member c _ _ _ _)]
    exact iX6_tellItem_135 h
  | w + 6, hw, _, _ => exact absurd hw (by omega)
end Tell
