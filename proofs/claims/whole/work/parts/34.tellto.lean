noncomputable def prS (B : Nat → Int32) (l w : Nat) (x : Nat ⊕ ((Nat → Int32) × Nat)) : Nat ⊕ (Nat × (Nat → Int32) × Nat) := match x with
  | .inl f => .inl f
  | .inr (nm, p) => if (tkR B l p).1 = 2 then .inr (w, nm, (tkR B l p).2.2.2) else .inl (tkR B l p).2.1
abbrev bgI (r : Int32 × Nat × Int32 × Nat) (i : Nat) : Prop := r.1 = 0 ∧ ¬ r.2.2.1 = -1 ∧ (r.2.2.1 = 0 ↔ i = 0)
/-- item i, from p on: a fault's place, or its word, its numbers, the place behind it -/
noncomputable def prI (B : Nat → Int32) (l i p : Nat) (nm : Nat → Int32) : Nat ⊕ (Nat × (Nat → Int32) × Nat) :=
  if bgI (tkR B l p) i then prS B l (tn (tkR B l p).2.2.1) (prN B l (tn (nbL.getD (tn (tkR B l p).2.2.1) 0)) 0 (tkR B l p).2.2.2 nm) else .inl (tkR B l p).2.1
noncomputable def tlT (B : Nat → Int32) (l : Nat) : Nat → Nat → Nat → Int32 → (Nat → Int32) → Ch → Int32 × Ch
  | 0, _, _, _, _, c => (-10 - nI l, c)
  | z + 1, i, p, r, nm, c => if (tkR B l p).1 = 3 ∧ 0 < i then (if r = -1 then nI i else -1000 - r, c) else
    match prI B l i p nm with
    | .inl f => (-10 - nI f, c)
    | .inr (w, nm2, p2) => if r = -1 then (if (tellF c w nm2).1 < 0 then tlT B l z (i + 1) p2 (nI i) nm2 (tellF c w nm2).2 else tlT B l z (i + 1) p2 (-1) nm2 (tellF c w nm2).2) else tlT B l z (i + 1) p2 r nm2 c
theorem nb_le : ∀ w, w < 6 → tn (nbL.getD w 0) ≤ 4 ∧ nbL.getD w 0 = nI (tn (nbL.getD w 0)) := by decide
theorem bgI_word {B : Nat → Int32} {l p i : Nat} (h : bgI (tkR B l p) i) : ∃ w, w < 6 ∧ (tkR B l p).2.2.1 = nI w ∧ tn (tkR B l p).2.2.1 = w ∧ (w = 0 ↔ i = 0) := by
  obtain ⟨h1, h2, h3⟩ := h
  obtain ⟨-, -, e⟩ := tkR_word h1
  rcases wdF_val B (tS B l p) (tW B l (tS B l p)) 6 (Nat.le_refl _) with q | ⟨x, q1, q2, -⟩
  · exact absurd ((congrArg (fun r => r.2.2.1) e).trans q) h2
  · have ev : (tkR B l p).2.2.1 = nI x := (congrArg (fun r => r.2.2.1) e).trans q2
    refine ⟨x, q1, ev, by rw [ev]; exact tn_nI (by omega), ?_⟩
    rw [← h3, ev]
    exact ⟨fun e => by rw [e]; rfl, fun e => (nI_eq (by omega) (by omega)).mp (show nI x = nI 0 from e)⟩
section TellTo
variable {S B nm : Nat → Int32} {Q : Int32 → Wd → Prop} {l : Nat} {c : Ch}
theorem S_tellTo (hl : S 0 = nI l) (hl2 : l ≤ 150) (h : ∀ S2 nm2, S2 0 = nI l → Q (tlT B l 151 0 0 (-1) nm c).1 (scW S2 B nm2 (tlT B l 151 0 0 (-1) nm c).2)) : CallI kX6_tellTo [.ref 16, .ref 19] (scW S B nm c) Q := by
  refine e_X6_tellTo ?_
  refine iX6_tellTo_0 (iX6_tellTo_1 (iX6_tellTo_2 rfl (Nat.le_of_ble_eq_true rfl) (iX6_tellTo_5 (iX6_tellTo_6 rfl (iX6_tellTo_7 (iX6_tellTo_8 rfl ?_))))))
  have key : ∀ j, j ≤ 151 → ∀ S2 nm2 q r c2 x4, S2 0 = nI l → S2 1 = nI q → q ≤ l → (r = -1 → 0 < j → COkE c2) → tlT B l (151 - j) j q r nm2 c2 = tlT B l 151 0 0 (-1) nm c → V kX6_tellTo 9 [some (.ref 16), some (.ref 19), some (.int r), some (.int (nI j)), x4] [] (scW S2 B nm2 c2) 0 0 (qI Q) := by
    refine dn 151 ?_
    intro j hj ih S2 nm2 q r c2 x4 hl3 hq hql hok he
    refine iX6_tellTo_9 (iX6_tellTo_10 ?_)
    refine iX6_tellTo_13 (fun g => ?_) (fun g => ?_)
    · have hj : j = 151 := by
        have := (nI_ltI (a := 150) (b := j) (by omega) (by omega)).mp g
        omega
      subst hj
      have he : (-10 - nI l, c2) = tlT B l 151 0 0 (-1) nm c := he
      rw [← he] at h
      refine iX6_tellTo_112 (iX6_tellTo_114 (iX6_tellTo_115 rfl rfl ?_))
      rw [hl3]
      refine iX6_tellTo_118 ?_
      exact iX6_tellTo_119 (h S2 nm2 hl3)
    · have hlt : j < 151 := by
        rcases Nat.lt_or_ge j 151 with z | z
        · exact z
        · exact absurd (nI_lt (a := 150) (b := j) (by omega) (by omega)) g
      have ih := ih hlt
      have e1 : nI j + 1 = nI (j + 1) := nI_1 j
      have e2 : tlT B l (151 - j) j q r nm2 c2 = if (tkR B l q).1 = 3 ∧ 0 < j then (if r = -1 then nI j else -1000 - r, c2) else
          match prI B l j q nm2 with
          | .inl f => (-10 - nI f, c2)
          | .inr (w, nm3, p2) => if r = -1 then (if (tellF c2 w nm3).1 < 0 then tlT B l (151 - (j + 1)) (j + 1) p2 (nI j) nm3 (tellF c2 w nm3).2 else tlT B l (151 - (j + 1)) (j + 1) p2 (-1) nm3 (tellF c2 w nm3).2) else tlT B l (151 - (j + 1)) (j + 1) p2 r nm3 c2 := by
        rw [show 151 - j = (151 - (j + 1)) + 1 by omega]
        rfl
      rw [e2] at he
      have hle := tkR_le (f := B) hql
      refine iX6_tellTo_16 (iX6_tellTo_17F plS (ssW S2 B nm2) [.ref 16] (ptS S2 B nm2 c2) (by decide) rfl rfl (Nat.le_of_ble_eq_true rfl) (S_takeToken hl3 hl2 hq hql ?_))
      change V kX6_tellTo 20 _ _ (wr (rn plS 23) _ plS _) 0 0 _
      rw [wrS]
      have hS0 : tkS S2 (tkR B l q) 0 = nI l := hl3
      have body : ¬ ((tkR B l q).1 = 3 ∧ 0 < j) → V kX6_tellTo 47 [some (.ref 16), some (.ref 19), some (.int r), some (.int (nI j)), x4] [] (scW (tkS S2 (tkR B l q)) B nm2 c2) 0 0 (qI Q) := by
        intro hn
        rw [if_neg hn] at he
        have fault : ∀ S3 nm3 f x4, prI B l j q nm2 = .inl f → S3 0 = nI l → S3 3 = nI f → V kX6_tellTo 81 [some (.ref 16), some (.ref 19), some (.int r), some (.int (nI j)), x4] [] (scW S3 B nm3 c2) 0 0 (qI Q) := by
          intro S3 nm3 f x4 hf h0 h3
          rw [hf] at he
          have he : (-10 - nI f, c2) = tlT B l 151 0 0 (-1) nm c := he
          rw [← he] at h
          refine iX6_tellTo_81 (iX6_tellTo_83 (iX6_tellTo_84 rfl rfl ?_))
          rw [h3]
          refine iX6_tellTo_87 ?_
          exact iX6_tellTo_88 (h S3 nm3 h0)
        refine iX6_tellTo_47 (iX6_tellTo_48 rfl rfl (iX6_tellTo_51 rfl (iX6_tellTo_53 (iX6_tellTo_54 ?_))))
        refine iX6_tellTo_55F plS (ssW (tkS S2 (tkR B l q)) B nm2) [.ref 16, .int (nI j)] (ptS _ B nm2 c2) (by decide) rfl rfl (Nat.le_of_ble_eq_true rfl) (S_beginsItem (by omega) (fun a1 a2 a3 => ?_) (fun a => ?_))
        · have hb : bgI (tkR B l q) j := ⟨a1, a2, a3⟩
          have hpr : prI B l j q nm2 = prS B l (tn (tkR B l q).2.2.1) (prN B l (tn (nbL.getD (tn (tkR B l q).2.2.1) 0)) 0 (tkR B l q).2.2.2 nm2) := if_pos hb
          obtain ⟨w, hw, ew, et, hw0⟩ := bgI_word hb
          rw [et] at hpr
          obtain ⟨hz, ez⟩ := nb_le w hw
          change V kX6_tellTo 58 _ _ (wr (rn plS 23) _ plS _) 0 0 _
          rw [wrS]
          refine iX6_tellTo_58 (fun h => False.elim (by revert h; decide)) (fun _ => (iX6_tellTo_61 (iX6_tellTo_62 (iX6_tellTo_65 ?_))))
          refine iX6_tellTo_67n (j := w) ew hw ?_
          rw [ez]
          refine iX6_tellTo_68F plS (ssW (tkS S2 (tkR B l q)) B nm2) [.ref 16, .int (nI (tn (nbL.getD w 0)))] (ptS _ B nm2 c2) (by decide) rfl rfl (Nat.le_of_ble_eq_true rfl) (S_takeNumbers hz hS0 hl2 (p := (tkR B l q).2.2.2) rfl hle.2.2 (fun S3 nm3 p3 b1 b2 b3 b4 => ?_) (fun S3 nm3 f b1 b2 b3 => ?_))
          · rw [b1] at hpr
            change V kX6_tellTo 71 _ _ (wr (rn plS 23) _ plS _) 0 0 _
            rw [wrS]
            have hle3 := tkR_le (f := B) b4
            refine iX6_tellTo_71 (fun h => False.elim (by revert h; decide)) (fun _ => (iX6_tellTo_74 ?_))
            refine iX6_tellTo_75F plS (ssW S3 B nm3) [.ref 16] (ptS S3 B nm3 c2) (by decide) rfl rfl (Nat.le_of_ble_eq_true rfl) (S_takeStop b2 hl2 b3 b4 (fun d => ?_) (fun d => ?_))
            · have hpr : prI B l j q nm2 = .inr (w, nm3, (tkR B l p3).2.2.2) := hpr.trans (if_pos d)
              rw [hpr] at he
              have he : (if r = -1 then (if (tellF c2 w nm3).1 < 0 then tlT B l (151 - (j + 1)) (j + 1) (tkR B l p3).2.2.2 (nI j) nm3 (tellF c2 w nm3).2 else tlT B l (151 - (j + 1)) (j + 1) (tkR B l p3).2.2.2 (-1) nm3 (tellF c2 w nm3).2) else tlT B l (151 - (j + 1)) (j + 1) (tkR B l p3).2.2.2 r nm3 c2) = tlT B l 151 0 0 (-1) nm c := he
              change V kX6_tellTo 78 _ _ (wr (rn plS 23) _ plS _) 0 0 _
              rw [wrS]
              have hS3 : tkS S3 (tkR B l p3) 0 = nI l := b2
              refine iX6_tellTo_78 (fun _ => (iX6_tellTo_89 (iX6_tellTo_90 ?_))) (fun h => False.elim (by revert h; decide))
              refine iX6_tellTo_91 (fun k => ?_) (fun k => ?_)
              · rw [if_neg k] at he
                refine iX6_tellTo_106 rfl (iX6_tellTo_109 ?_)
                rw [e1]
                exact ih (tkS S3 (tkR B l p3)) nm3 (tkR B l p3).2.2.2 r c2 _ hS3 rfl hle3.2.2 (fun z => absurd z k) he
              · rw [if_pos k] at he
                have hc2 : w = 0 ∨ COkE c2 := by
                  by_cases hj0 : j = 0
                  · exact Or.inl (hw0.mpr hj0)
                  · exact Or.inr (hok k (by omega))
                refine iX6_tellTo_94 (iX6_tellTo_95 (iX6_tellTo_96 ?_))
                rw [show tkS S2 (tkR B l q) 4 = nI w from ew]
                refine iX6_tellTo_98 (a0 := .ref 19) (a1 := .int (nI w)) rfl (Nat.le_of_ble_eq_true rfl) (S_tellItem hw hc2 ?_)
                refine iX6_tellTo_101 (fun k2 => ?_) (fun k2 => ?_)
                · have k2n : ¬ (tellF c2 w nm3).1 < 0 := i32_len k2
                  rw [if_neg k2n] at he
                  have hok2 := tellF_ok hc2 k2n
                  refine iX6_tellTo_106 rfl (iX6_tellTo_109 ?_)
                  rw [e1, k]
                  exact ih (tkS S3 (tkR B l p3)) nm3 (tkR B l p3).2.2.2 (-1) (tellF c2 w nm3).2 _ hS3 rfl hle3.2.2 (fun _ _ => hok2) he
                · rw [if_pos (i32_nle k2)] at he
                  refine iX6_tellTo_104 (iX6_tellTo_105 rfl (iX6_tellTo_106 rfl (iX6_tellTo_109 ?_)))
                  rw [e1]
                  refine ih (tkS S3 (tkR B l p3)) nm3 (tkR B l p3).2.2.2 (nI j) (tellF c2 w nm3).2 _ hS3 rfl hle3.2.2 (fun z _ => ?_) he
                  have := nI_pos' (n := j) (by omega)
                  rw [z] at this
                  exact absurd this (by decide)
            · have hpr : prI B l j q nm2 = .inl (tkR B l p3).2.1 := hpr.trans (if_neg d)
              change V kX6_tellTo 78 _ _ (wr (rn plS 23) _ plS _) 0 0 _
              rw [wrS]
              refine iX6_tellTo_78 (fun h => False.elim (by revert h; decide)) (fun _ => ?_)
              exact fault (tkS S3 (tkR B l p3)) nm3 _ _ hpr b2 rfl
          · rw [b1] at hpr
            have hpr : prI B l j q nm2 = .inl f := hpr
            change V kX6_tellTo 71 _ _ (wr (rn plS 23) _ plS _) 0 0 _
            rw [wrS]
            refine iX6_tellTo_71 (fun _ => ?_) (fun h => False.elim (by revert h; decide))
            exact fault S3 nm3 f _ hpr b2 b3
        · have hpr : prI B l j q nm2 = .inl (tkR B l q).2.1 := if_neg a
          change V kX6_tellTo 58 _ _ (wr (rn plS 23) _ plS _) 0 0 _
          rw [wrS]
          refine iX6_tellTo_58 (fun _ => ?_) (fun h => False.elim (by revert h; decide))
          exact fault (tkS S2 (tkR B l q)) nm2 _ _ hpr hS0 rfl
      refine iX6_tellTo_20 (iX6_tellTo_21 rfl rfl (iX6_tellTo_24 ?_))
      refine iX6_tellTo_25 (fun g2 => ?_) (fun g2 => ?_)
      · exact body (fun z => g2 z.1)
      · refine iX6_tellTo_28 ?_
        refine iX6_tellTo_29 (fun g3 => ?_) (fun g3 => ?_)
        · exact body (fun z => by
            have := nI_le (a := 1) (b := j) z.2 (by omega)
            exact absurd (Int32.le_trans this g3) (by decide))
        · have hj0 : 0 < j := by
            rcases Nat.lt_or_ge 0 j with z | z
            · exact z
            · exact absurd (show nI j ≤ 0 by rw [show j = 0 by omega]; decide) g3
          rw [if_pos ⟨g2, hj0⟩] at he
          rw [← he] at h
          refine iX6_tellTo_32 (iX6_tellTo_33 ?_)
          refine iX6_tellTo_34 (fun g4 => ?_) (fun g4 => ?_)
          · rw [if_neg g4] at h
            refine iX6_tellTo_41 (iX6_tellTo_44 (iX6_tellTo_45 ?_))
            exact iX6_tellTo_46 (h _ nm2 hS0)
          · rw [if_pos g4] at h
            refine iX6_tellTo_37 (iX6_tellTo_38 ?_)
            exact iX6_tellTo_46 (h _ nm2 hS0)
  exact key 0 (Nat.zero_le _) (upd S 1 0) nm 0 (-1) c none hl rfl (Nat.zero_le _) (fun _ h => absurd h (by omega)) rfl
end TellTo
