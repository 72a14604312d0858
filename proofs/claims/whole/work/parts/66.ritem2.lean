theorem tk_adv {f : Nat → Int32} {l p : Nat} (hp : p ≤ l) (h : (tkR f l p).1 = 1 ∨ (tkR f l p).1 = 2) : p + 1 ≤ (tkR f l p).2.2.2 := by
  have hle := tE_le (T := f) hp
  have h0 : p ≤ tS f l p := (scn_in (isB f) hp).1
  rw [tk_end]
  rcases h with h | h
  · obtain ⟨h1, h3, h4⟩ := tk_num.mp h
    have e2 : tE f l (tS f l p) = tN f l (tS f l p) := by
      unfold tE
      rw [if_neg (show ¬ l ≤ tS f l p by omega), if_neg (fun z => isL_F z h3), if_pos h3]
    have e3 : tN f l (tS f l p) = scn (isF f) (l - (tS f l p + 1)) (tS f l p + 1) := scn_step h1 h3
    have := scn_ge (isF f) (l - (tS f l p + 1)) (tS f l p + 1)
    omega
  · obtain ⟨h1, h3⟩ := tk_semi.mp h
    have n1 : ¬ isL f (tS f l p) = true := by
      intro z
      unfold isL at z
      rw [decide_eq_true_iff, h3] at z
      exact absurd z.1 (by decide)
    have n2 : ¬ isF f (tS f l p) = true := by
      intro z
      unfold isF at z
      rw [decide_eq_true_iff, h3] at z
      exact absurd z.2 (by decide)
    have e2 : tE f l (tS f l p) = tS f l p + 1 := by
      unfold tE
      rw [if_neg (show ¬ l ≤ tS f l p by omega), if_neg n1, if_neg n2]
    omega
theorem tk_adv3 {f : Nat → Int32} {l p i : Nat} (hp : p ≤ l) (h : bgI (tkR f l p) i) : p + 3 ≤ (tkR f l p).2.2.2 := by
  have h0 : p ≤ tS f l p := (scn_in (isB f) hp).1
  obtain ⟨h1, h2, h3⟩ := h
  obtain ⟨-, -, e⟩ := tkR_word h1
  rcases wdF_val f (tS f l p) (tW f l (tS f l p)) 6 (Nat.le_refl _) with q | ⟨x, q1, q2, q3⟩
  · exact absurd ((congrArg (fun r => r.2.2.1) e).trans q) h2
  · have e4 : (tkR f l p).2.2.2 = tW f l (tS f l p) := congrArg (fun r => r.2.2.2) e
    have h5 := q3.1
    have h6 := (by decide : ∀ w, w < 6 → 3 ≤ wdLen.getD w 0) x q1
    omega
theorem prN_adv {B : Nat → Int32} {l : Nat} {z i p p' : Nat} {nm nm' : Nat → Int32} (hz : 0 < z) (hp : p ≤ l) (h : prN B l z i p nm = .inr (nm', p')) : p + 1 ≤ p' ∧ p' ≤ l := by
  obtain ⟨y, rfl⟩ : ∃ y, z = y + 1 := ⟨z - 1, by omega⟩
  unfold prN at h
  split at h
  · rename_i g
    have ht := tkR_le (f := B) hp
    have h1 := tk_adv hp (Or.inl g)
    have := prN_le _ _ _ _ _ _ ht.2.2 h
    omega
  · cases h
abbrev nb (w : Nat) : Nat := tn (nbL.getD w 0)
theorem nb_in : ∀ w, w < 6 → 1 ≤ nb w ∧ nb w ≤ 4 := by decide
theorem tkA_8 (s T : Nat → Int32) (l p : Nat) (v : Int32) : upd (tkA s T l p) 8 v = tkA (upd s 8 v) T l p := by
  funext j
  unfold tkA tkM upd
  by_cases h8 : j = 8
  · subst h8
    rfl
  · rw [if_neg h8]
    rw [if_neg h8]
section RItem2
variable {R T K D s nm : Nat → Int32} {l p rm : Nat} {Q : Int32 → Wd → Prop}
theorem A_item (hl : s 0 = nI l) (hl2 : l ≤ 150) (hp : p ≤ l) (hr : s 8 = nI rm) (hrm : 5 * rm ≤ p) (h0 : ∀ q D', prI T l rm p nm = .inl (tS T l q) → q ≤ l → Q 0 (mW R T K D' (tkA s T l q))) (h1 : ∀ w nm2 p2 D', prI T l rm p nm = .inr (w, nm2, p2) → w < 6 → (w = 0 ↔ rm = 0) → D' (5 * rm) = nI w → (∀ j, j < nb w → D' (5 * rm + 1 + j) = nm2 j) → (∀ j, j < 5 * rm → D' j = D j) → p + 5 ≤ p2 → p2 ≤ l → Q 1 (mW R T K D' (tkA (upd s 8 (nI (rm + 1))) T l p2))) : CallI kX11_readsItem [.ref 16] (mW R T K D (tkA s T l p)) Q := by
  refine e_X11_readsItem ?_
  have h8 : ∀ q, tkA s T l q 8 = nI rm := fun _ => hr
  have no : ¬ bgI (tkR T l p) rm → ∀ v, V kX11_readsItem 34 [some (.ref 16), some (.int v), none, none, none] [] (mW R T K D (tkA s T l p)) 0 0 (qI Q) := by
    intro g v
    have e : prI T l rm p nm = .inl (tkR T l p).2.1 := if_neg g
    rw [tk_place] at e
    refine iX11_readsItem_34 ?_
    exact iX11_readsItem_35 rfl (h0 p D e hp)
  refine iX11_readsItem_0 ?_
  refine iX11_readsItem_1 rfl (Nat.le_of_ble_eq_true rfl) (A_word hp hl2 ?_)
  generalize hv : (if (tkR T l p).1 = 0 then (tkR T l p).2.2.1 else -1) = v
  refine iX11_readsItem_4 rfl (iX11_readsItem_5 (iX11_readsItem_6 ?_))
  refine iX11_readsItem_7 (fun g => ?_) (fun g => ?_)
  · refine no (fun z => ?_) v
    rw [if_pos z.1] at hv
    exact z.2.1 (hv.trans g)
  · have t0 : (tkR T l p).1 = 0 := by
      by_cases z : (tkR T l p).1 = 0
      · exact z
      · rw [if_neg z] at hv
        exact absurd hv.symm g
    rw [if_pos t0] at hv
    have hz : nI rm = 0 ↔ rm = 0 := ⟨fun e => (nI_eq (by omega) (by omega)).mp (show nI rm = nI 0 from e), fun e => by rw [e]; rfl⟩
    have go : bgI (tkR T l p) rm → V kX11_readsItem 36 [some (.ref 16), some (.int v), none, none, none] [] (mW R T K D (tkA s T l p)) 0 0 (qI Q) := by
      intro hb
      obtain ⟨w, hw, ew, et, hw0⟩ := bgI_word hb
      have hpr : prI T l rm p nm = prS T l (tn (tkR T l p).2.2.1) (prN T l (tn (nbL.getD (tn (tkR T l p).2.2.1) 0)) 0 (tkR T l p).2.2.2 nm) := if_pos hb
      rw [et] at hpr
      have a3 := tk_adv3 hp hb
      have hle := tkR_le (f := T) hp
      have hvw : v = nI w := hv.symm.trans ew
      subst hvw
      obtain ⟨nb1, nb4⟩ := nb_in w hw
      refine iX11_readsItem_36 (iX11_readsItem_37 rfl rfl (iX11_readsItem_40 (iX11_readsItem_41 (iX11_readsItem_42 rfl rfl ?_))))
      rw [h8]
      refine iX11_readsItem_45 (iX11_readsItem_46 (iX11_readsItem_47 rfl (show (5 : Int32) * nI rm = nI (5 * rm) by rw [show (5 : Int32) = nI 5 from rfl, nI_mul]) (by omega) (by decide) ?_))
      change V kX11_readsItem 48 _ _ (mW R T K (upd D (5 * rm) (nI w)) (tkA s T l p)) 0 0 _
      refine iX11_readsItem_48 (iX11_readsItem_49 rfl (Nat.le_of_ble_eq_true rfl) (A_token hl hl2 hp ?_))
      generalize hp1 : (tkR T l p).2.2.2 = p1 at *
      have bad : ∀ q D' x4, prI T l rm p nm = .inl (tS T l q) → q ≤ l → V kX11_readsItem 134 [some (.ref 16), some (.int (nI w)), some (.int (nI (nb w))), some (.int 0), x4] [] (mW R T K D' (tkA s T l q)) 0 0 (qI Q) := by
        intro q D' x4 e hq
        refine iX11_readsItem_134 ?_
        exact iX11_readsItem_135 rfl (h0 q D' e hq)
      have bad1 : ∀ q D' x4, prI T l rm p nm = .inl (tS T l q) → q ≤ l → V kX11_readsItem 134 [some (.ref 16), some (.int (nI w)), some (.int (nI (nb w))), some (.int 1), x4] [] (mW R T K D' (tkA s T l q)) 0 0 (qI Q) := by
        intro q D' x4 e hq
        refine iX11_readsItem_134 ?_
        exact iX11_readsItem_135 rfl (h0 q D' e hq)
      have key : ∀ j, j ≤ nb w → ∀ D' nm2 q, q ≤ l → prN T l (nb w - j) j q nm2 = prN T l (nb w) 0 p1 nm → D' (5 * rm) = nI w → (∀ i, i < j → D' (5 * rm + 1 + i) = nm2 i) → (∀ i, i < 5 * rm → D' i = D i) → V kX11_readsItem 82 [some (.ref 16), some (.int (nI w)), some (.int (nI (nb w))), some (.int 1), some (.int (nI j))] [] (mW R T K D' (tkA s T l q)) 0 0 (qI Q) := by
        refine dn (nb w) ?_
        intro j hj ih D' nm2 q hq he d0 d1 d2
        refine iX11_readsItem_82 (iX11_readsItem_84 ?_)
        refine iX11_readsItem_85 (fun g2 => ?_) (fun g2 => ?_)
        · have ej := eq_of hj (by omega) g2
          subst ej
          rw [Nat.sub_self] at he
          have he : (.inr (nm2, q) : Nat ⊕ ((Nat → Int32) × Nat)) = prN T l (nb w) 0 p1 nm := he
          have hpr : prI T l rm p nm = if (tkR T l q).1 = 2 then .inr (w, nm2, (tkR T l q).2.2.2) else .inl (tkR T l q).2.1 := by
            rw [hpr, ← he]
            rfl
          have adv := prN_adv nb1 hle.2.2 he.symm
          have hle3 := tE_le (T := T) hq
          have stop : ¬ (tkR T l q).1 = 2 → prI T l rm p nm = .inl (tS T l q) := fun z => by
            rw [hpr, if_neg z, tk_place]
          refine iX11_readsItem_105 (iX11_readsItem_106 (fun h => False.elim (by revert h; decide)) (fun _ => (iX11_readsItem_109 (iX11_readsItem_110 rfl rfl (iX11_readsItem_113 (iX11_readsItem_114 rfl rfl ?_))))))
          refine iX11_readsItem_117 (fun g3 => ?_) (fun g3 => ?_)
          · have g3 : nI (tS T l q) = s 0 := g3
            rw [hl] at g3
            have g3 := (nI_eq (by omega) (by omega)).mp g3
            exact bad1 q D' _ (stop (fun z => by have := (tk_semi.mp z).1; omega)) hq
          · have hlt : tS T l q < l := by
              rcases Nat.lt_or_ge (tS T l q) l with a | a
              · exact a
              · refine absurd ?_ g3
                show nI (tS T l q) = s 0
                rw [hl, show tS T l q = l by omega]
            refine iX11_readsItem_120 (iX11_readsItem_121 rfl rfl (iX11_readsItem_124 (iX11_readsItem_125 rfl rfl (iX11_readsItem_128 (j := tS T l q) rfl rfl (by omega) (by decide) (iX11_readsItem_129 ?_)))))
            refine iX11_readsItem_131 (fun g4 => ?_) (fun g4 => ?_)
            · have sm := tk_semi.mpr ⟨hlt, g4⟩
              rw [if_pos sm] at hpr
              have adv2 := tk_adv hq (Or.inr sm)
              have hle4 := tkR_le (f := T) hq
              have fin := h1 w nm2 _ D' hpr hw hw0 d0 d1 d2 (by omega) hle4.2.2
              refine iX11_readsItem_136 (iX11_readsItem_137 rfl (Nat.le_of_ble_eq_true rfl) (A_token hl hl2 hq (iX11_readsItem_140 (iX11_readsItem_141 rfl (iX11_readsItem_142 rfl rfl ?_)))))
              rw [h8]
              refine iX11_readsItem_145 (iX11_readsItem_146 ?_)
              rw [nI_1]
              refine iX11_readsItem_147 rfl (Nat.le_of_ble_eq_true rfl) ?_
              change V kX11_readsItem 150 _ _ (mW R T K D' (upd (tkA s T l (tkR T l q).2.2.2) 8 (nI (rm + 1)))) 0 0 _
              rw [tkA_8]
              refine iX11_readsItem_150 ?_
              exact iX11_readsItem_151 rfl fin
            · exact bad1 q D' _ (stop (fun z => g4 (tk_semi.mp z).2)) hq
        · have hlt := nlt_of (by omega) g2
          have ih := ih hlt
          have e1 : nI j + 1 = nI (j + 1) := nI_1 j
          have e2 : prN T l (nb w - j) j q nm2 = if (tkR T l q).1 = 1 then prN T l (nb w - (j + 1)) (j + 1) (tkR T l q).2.2.2 (upd nm2 j (tkR T l q).2.2.1) else .inl (tkR T l q).2.1 := by
            rw [show nb w - j = (nb w - (j + 1)) + 1 by omega]
            rfl
          have hle4 := tkR_le (f := T) hq
          refine iX11_readsItem_88 (iX11_readsItem_89 (fun h => False.elim (by revert h; decide)) (fun _ => (iX11_readsItem_92 (iX11_readsItem_93 ?_))))
          refine iX11_readsItem_95 rfl (Nat.le_of_ble_eq_true rfl) (A_reads (k := j) hl hl2 hq hr (by omega) (fun z => ?_) (fun z => ?_))
          · rw [if_pos z] at e2
            refine iX11_readsItem_98 rfl (iX11_readsItem_99 rfl (iX11_readsItem_102 ?_))
            rw [e1]
            refine ih _ (upd nm2 j (tkR T l q).2.2.1) (tkR T l q).2.2.2 hle4.2.2 (e2.symm.trans he) ?_ (fun i hi => ?_) (fun i hi => ?_)
            · rw [upN (by omega)]
              exact d0
            · by_cases hij : i = j
              · subst hij
                rw [upE, upE]
              · rw [upN (by omega), upN hij]
                exact d1 i (by omega)
            · rw [upN (by omega)]
              exact d2 i hi
          · rw [if_neg z] at e2
            have hf : prI T l rm p nm = .inl (tS T l q) := by
              rw [hpr, ← he, e2, ← tk_place]
              rfl
            refine iX11_readsItem_98 rfl (iX11_readsItem_99 rfl (iX11_readsItem_102 (iX11_readsItem_82 (iX11_readsItem_84 ?_))))
            rw [e1]
            have tail : V kX11_readsItem 105 [some (.ref 16), some (.int (nI w)), some (.int (nI (nb w))), some (.int 0), some (.int (nI (j + 1)))] [] (mW R T K D' (tkA s T l q)) 0 0 (qI Q) := by
              refine iX11_readsItem_105 (iX11_readsItem_106 (fun _ => ?_) (fun h => False.elim (by revert h; decide)))
              exact bad q D' _ hf hq
            refine iX11_readsItem_85 (fun g5 => ?_) (fun g5 => ?_)
            · exact tail
            · refine iX11_readsItem_88 (iX11_readsItem_89 (fun _ => ?_) (fun h => False.elim (by revert h; decide)))
              exact tail
      have cnt : V kX11_readsItem 76 [some (.ref 16), some (.int (nI w)), none, none, none] [.int (nI (nb w))] (mW R T K (upd D (5 * rm) (nI w)) (tkA s T l p1)) 0 0 (qI Q) := by
        refine iX11_readsItem_76 rfl (iX11_readsItem_77 (iX11_readsItem_78 rfl (iX11_readsItem_79 (iX11_readsItem_80 rfl ?_))))
        exact key 0 (Nat.zero_le _) _ nm p1 hle.2.2 rfl (upE _ _ _) (fun i hi => absurd hi (by omega)) (fun i hi => upN (by omega))
      clear key bad bad1 no h0 h1
      match w, hw, cnt with
      | 0, _, cnt =>
        refine iX11_readsItem_52 (iX11_readsItem_53 (iX11_readsItem_54 (fun _ => (iX11_readsItem_61 (iX11_readsItem_62 (iX11_readsItem_63 (fun h => False.elim (by revert h; decide)) (fun _ => (iX11_readsItem_66 (iX11_readsItem_67 (iX11_readsItem_68 (fun _ => (iX11_readsItem_75 ?_)) (fun h => False.elim (by revert h; decide)))))))))) (fun h => False.elim (by revert h; decide))))
        exact cnt
      | 1, _, cnt =>
        refine iX11_readsItem_52 (iX11_readsItem_53 (iX11_readsItem_54 (fun _ => (iX11_readsItem_61 (iX11_readsItem_62 (iX11_readsItem_63 (fun _ => (iX11_readsItem_71 (iX11_readsItem_72 ?_))) (fun h => False.elim (by revert h; decide)))))) (fun h => False.elim (by revert h; decide))))
        exact cnt
      | 2, _, cnt =>
        refine iX11_readsItem_52 (iX11_readsItem_53 (iX11_readsItem_54 (fun _ => (iX11_readsItem_61 (iX11_readsItem_62 (iX11_readsItem_63 (fun h => False.elim (by revert h; decide)) (fun _ => (iX11_readsItem_66 (iX11_readsItem_67 (iX11_readsItem_68 (fun _ => (iX11_readsItem_75 ?_)) (fun h => False.elim (by revert h; decide)))))))))) (fun h => False.elim (by revert h; decide))))
        exact cnt
      | 3, _, cnt =>
        refine iX11_readsItem_52 (iX11_readsItem_53 (iX11_readsItem_54 (fun _ => (iX11_readsItem_61 (iX11_readsItem_62 (iX11_readsItem_63 (fun h => False.elim (by revert h; decide)) (fun _ => (iX11_readsItem_66 (iX11_readsItem_67 (iX11_readsItem_68 (fun _ => (iX11_readsItem_75 ?_)) (fun h => False.elim (by revert h; decide)))))))))) (fun h => False.elim (by revert h; decide))))
        exact cnt
      | 4, _, cnt =>
        refine iX11_readsItem_52 (iX11_readsItem_53 (iX11_readsItem_54 (fun _ => (iX11_readsItem_61 (iX11_readsItem_62 (iX11_readsItem_63 (fun h => False.elim (by revert h; decide)) (fun _ => (iX11_readsItem_66 (iX11_readsItem_67 (iX11_readsItem_68 (fun h => False.elim (by revert h; decide)) (fun _ => (iX11_readsItem_71 (iX11_readsItem_72 ?_))))))))))) (fun h => False.elim (by revert h; decide))))
        exact cnt
      | 5, _, cnt =>
        refine iX11_readsItem_52 (iX11_readsItem_53 (iX11_readsItem_54 (fun h => False.elim (by revert h; decide)) (fun _ => (iX11_readsItem_57 (iX11_readsItem_58 ?_)))))
        exact cnt
      | w + 6, hw, _ => exact absurd hw (by omega)
    have step : ∀ A : Int32, (A = 1 ∧ v = 0 ∨ A = 0 ∧ ¬ v = 0) → V kX11_readsItem 19 [some (.ref 16), some (.int v), none, none, none] [.int A] (mW R T K D (tkA s T l p)) 0 0 (qI Q) := by
      intro A hA
      refine iX11_readsItem_19 (iX11_readsItem_20 rfl rfl ?_)
      rw [h8]
      refine iX11_readsItem_23 (fun g3 => ?_) (fun g3 => ?_)
      · have hi0 : ¬ rm = 0 := fun e => g3 (hz.mpr e)
        refine iX11_readsItem_30 ?_
        rcases hA with ⟨rfl, hA⟩ | ⟨rfl, hA⟩
        · refine iX11_readsItem_31 (fun h => False.elim (by revert h; decide)) (fun _ => ?_)
          exact no (fun z => hi0 (z.2.2.mp (hv.trans hA))) v
        · refine iX11_readsItem_31 (fun _ => ?_) (fun h => False.elim (by revert h; decide))
          exact go ⟨t0, by rw [hv]; exact g, ⟨fun z => absurd (hv.symm.trans z) hA, fun z => absurd z hi0⟩⟩
      · have hi0 : rm = 0 := hz.mp g3
        refine iX11_readsItem_26 (iX11_readsItem_27 ?_)
        rcases hA with ⟨rfl, hA⟩ | ⟨rfl, hA⟩
        · refine iX11_readsItem_31 (fun _ => ?_) (fun h => False.elim (by revert h; decide))
          exact go ⟨t0, by rw [hv]; exact g, ⟨fun _ => hi0, fun _ => hv.trans hA⟩⟩
        · refine iX11_readsItem_31 (fun h => False.elim (by revert h; decide)) (fun _ => ?_)
          exact no (fun z => hA (hv.symm.trans (z.2.2.mpr hi0))) v
    refine iX11_readsItem_10 ?_
    refine iX11_readsItem_11 (fun g2 => ?_) (fun g2 => ?_)
    · refine iX11_readsItem_18 ?_
      exact step 0 (Or.inr ⟨rfl, g2⟩)
    · refine iX11_readsItem_14 (iX11_readsItem_15 ?_)
      exact step 1 (Or.inl ⟨rfl, g2⟩)
end RItem2
