theorem tk_over {f : Nat → Int32} {l p : Nat} : (tkR f l p).1 = 3 ↔ l ≤ tS f l p := by
  by_cases h1 : l ≤ tS f l p
  · have e : tkR f l p = (3, tS f l p, -1, tS f l p) := by unfold tkR; rw [if_pos h1]
    rw [e]
    exact ⟨fun _ => h1, fun _ => rfl⟩
  · refine ⟨fun z => ?_, fun z => absurd z h1⟩
    unfold tkR at z
    rw [if_neg h1] at z
    split at z
    · exact absurd (show (0 : Int32) = 3 from z) (by decide)
    · split at z
      · split at z
        · exact absurd (show (1 : Int32) = 3 from z) (by decide)
        · exact absurd (show (4 : Int32) = 3 from z) (by decide)
      · split at z
        · exact absurd (show (2 : Int32) = 3 from z) (by decide)
        · exact absurd (show (4 : Int32) = 3 from z) (by decide)
theorem prN_ind {B : Nat → Int32} {l : Nat} : ∀ z i p nm nm', (∀ j, j < i → nm' j = nm j) → (∀ f, prN B l z i p nm = .inl f → prN B l z i p nm' = .inl f) ∧ (∀ nm2 p2, prN B l z i p nm = .inr (nm2, p2) → ∃ nm3, prN B l z i p nm' = .inr (nm3, p2) ∧ ∀ j, j < i + z → nm3 j = nm2 j)
  | 0, i, p, nm, nm', h => by
    refine ⟨fun f e => (by cases e), fun nm2 p2 e => ?_⟩
    cases e
    exact ⟨nm', rfl, h⟩
  | z + 1, i, p, nm, nm', h => by
    by_cases g : (tkR B l p).1 = 1
    · have ih := prN_ind (B := B) (l := l) z (i + 1) (tkR B l p).2.2.2 (upd nm i (tkR B l p).2.2.1) (upd nm' i (tkR B l p).2.2.1) (fun j hj => by
        by_cases q : j = i
        · subst q
          rw [upE, upE]
        · rw [upN q, upN q]
          exact h j (by omega))
      have e1 : ∀ nm, prN B l (z + 1) i p nm = prN B l z (i + 1) (tkR B l p).2.2.2 (upd nm i (tkR B l p).2.2.1) := fun nm => by
        conv => lhs; unfold prN
        rw [if_pos g]
      rw [e1, e1, show i + (z + 1) = i + 1 + z by omega]
      exact ih
    · have e1 : ∀ nm, prN B l (z + 1) i p nm = .inl (tkR B l p).2.1 := fun nm => by
        conv => lhs; unfold prN
        rw [if_neg g]
      rw [e1, e1]
      exact ⟨fun f e => e, fun nm2 p2 e => (by cases e)⟩
theorem prI_ind {B : Nat → Int32} {l i p : Nat} {nm : Nat → Int32} (nm' : Nat → Int32) : (∀ f, prI B l i p nm = .inl f → prI B l i p nm' = .inl f) ∧ (∀ w nm2 p2, prI B l i p nm = .inr (w, nm2, p2) → ∃ nm3, prI B l i p nm' = .inr (w, nm3, p2) ∧ ∀ j, j < nb w → nm3 j = nm2 j) := by
  by_cases g : bgI (tkR B l p) i
  · have e1 : ∀ nm, prI B l i p nm = prS B l (tn (tkR B l p).2.2.1) (prN B l (nb (tn (tkR B l p).2.2.1)) 0 (tkR B l p).2.2.2 nm) := fun nm => if_pos g
    rw [e1, e1]
    generalize tn (tkR B l p).2.2.1 = w0
    obtain ⟨i1, i2⟩ := prN_ind (B := B) (l := l) (nb w0) 0 (tkR B l p).2.2.2 nm nm' (fun j hj => absurd hj (by omega))
    cases hc : prN B l (nb w0) 0 (tkR B l p).2.2.2 nm with
    | inl f0 =>
      rw [i1 f0 hc]
      exact ⟨fun f e => e, fun w nm2 p2 e => (by cases e)⟩
    | inr q =>
      obtain ⟨nm2, p2⟩ := q
      obtain ⟨nm3, e3, h3⟩ := i2 nm2 p2 hc
      rw [e3]
      have eS : ∀ nm, prS B l w0 (.inr (nm, p2)) = if (tkR B l p2).1 = 2 then .inr (w0, nm, (tkR B l p2).2.2.2) else .inl (tkR B l p2).2.1 := fun _ => rfl
      rw [eS, eS]
      by_cases g2 : (tkR B l p2).1 = 2
      · rw [if_pos g2, if_pos g2]
        refine ⟨fun f e => (by cases e), fun w nm4 p4 e => ?_⟩
        cases e
        exact ⟨nm3, rfl, fun j hj => h3 j (by omega)⟩
      · rw [if_neg g2, if_neg g2]
        exact ⟨fun f e => e, fun w nm2 p2 e => (by cases e)⟩
  · have e1 : ∀ nm, prI B l i p nm = .inl (tkR B l p).2.1 := fun nm => if_neg g
    rw [e1, e1]
    exact ⟨fun f e => e, fun w nm2 p2 e => (by cases e)⟩
/-- item i stands at g i, its record in D -/
def Itm (B : Nat → Int32) (l : Nat) (D : Nat → Int32) (g : Nat → Nat) (i : Nat) : Prop := ∃ w, w < 6 ∧ (w = 0 ↔ i = 0) ∧ D (5 * i) = nI w ∧ ∀ nm, ∃ nm2, prI B l i (g i) nm = .inr (w, nm2, g (i + 1)) ∧ ∀ j, j < nb w → nm2 j = D (5 * i + 1 + j)
def Chn (B : Nat → Int32) (l : Nat) (D : Nat → Int32) (g : Nat → Nat) (m : Nat) : Prop := g 0 = 0 ∧ ∀ i, i < m → (i = 0 ∨ ¬ (tkR B l (g i)).1 = 3) ∧ Itm B l D g i
theorem Chn_ext {B : Nat → Int32} {l : Nat} {D D' : Nat → Int32} {g : Nat → Nat} {m w p2 : Nat} {nm nm2 : Nat → Int32} (h : Chn B l D g m) (hm : m = 0 ∨ ¬ (tkR B l (g m)).1 = 3) (hp : prI B l m (g m) nm = .inr (w, nm2, p2)) (hw : w < 6) (hw0 : w = 0 ↔ m = 0) (d0 : D' (5 * m) = nI w) (d1 : ∀ j, j < nb w → D' (5 * m + 1 + j) = nm2 j) (d2 : ∀ j, j < 5 * m → D' j = D j) : ∃ g', Chn B l D' g' (m + 1) ∧ g' (m + 1) = p2 := by
  refine ⟨fun i => if i ≤ m then g i else p2, ⟨?_, fun i hi => ?_⟩, ?_⟩
  · show (if 0 ≤ m then g 0 else p2) = 0
    rw [if_pos (Nat.zero_le _)]
    exact h.1
  · have e0 : (fun i => if i ≤ m then g i else p2) i = g i := if_pos (by omega)
    rcases Nat.lt_or_ge i m with a | a
    · obtain ⟨h1, w', h2, h3, h4, h5⟩ := h.2 i a
      have e1 : (fun i => if i ≤ m then g i else p2) (i + 1) = g (i + 1) := if_pos (by omega)
      refine ⟨by rw [e0]; exact h1, w', h2, h3, (d2 _ (by omega)).trans h4, fun nm => ?_⟩
      obtain ⟨nm3, h6, h7⟩ := h5 nm
      have hnb := (nb_in w' h2).2
      refine ⟨nm3, by rw [e0, e1]; exact h6, fun j hj => (h7 j hj).trans (d2 _ (by omega)).symm⟩
    · have ei : i = m := by omega
      subst ei
      have e1 : (fun j => if j ≤ i then g j else p2) (i + 1) = p2 := if_neg (by omega)
      refine ⟨by rw [e0]; exact hm, w, hw, hw0, d0, fun nm' => ?_⟩
      obtain ⟨nm3, h6, h7⟩ := (prI_ind nm').2 w nm2 p2 hp
      refine ⟨nm3, by rw [e0, e1]; exact h6, fun j hj => (h7 j hj).trans (d1 j hj).symm⟩
  · show (if m + 1 ≤ m then g (m + 1) else p2) = p2
    rw [if_neg (by omega)]
theorem Chn_0 (B : Nat → Int32) (l : Nat) (D : Nat → Int32) : Chn B l D (fun _ => 0) 0 := ⟨rfl, fun i hi => absurd hi (by omega)⟩
section Fault
variable {R T K D s : Nat → Int32} {l : Nat} {Q : Int32 → Wd → Prop}
theorem tkA_low {s T : Nat → Int32} {l q : Nat} {v : Int32} : ∀ j, j ≤ 4 → tkA (upd s 8 v) T l q j = s j := by
  intro j hj
  unfold tkA tkM
  rw [if_neg (by omega), if_neg (by omega), if_neg (by omega), upN (by omega)]
theorem M_fault (hl : s 0 = nI l) (hl2 : l ≤ 150) (h0 : ∀ m D0 D' g f s', Chn T l D0 g m → (m = 0 ∨ ¬ (tkR T l (g m)).1 = 3) → m ≤ 30 → f ≤ l → (∀ nm, prI T l m (g m) nm = .inl f) → (∀ j, j ≤ 4 → s' j = s j) → Q (nI f) (mW R T K D' s')) (h1 : ∀ m D' g s', Chn T l D' g m → 1 ≤ m → m ≤ 30 → (tkR T l (g m)).1 = 3 → s' 8 = nI m → (∀ j, j ≤ 4 → s' j = s j) → Q (-1) (mW R T K D' s')) : CallI kX11_fault [.ref 16] (mW R T K D s) Q := by
  refine e_X11_fault ?_
  have bad : ∀ m D0 D' g q, Chn T l D0 g m → (m = 0 ∨ ¬ (tkR T l (g m)).1 = 3) → m ≤ 30 → q ≤ l → (∀ nm, prI T l m (g m) nm = .inl (tS T l q)) → V kX11_fault 18 [some (.ref 16), none] [.int 0] (mW R T K D' (tkA (upd s 8 (nI m)) T l q)) 0 0 (qI Q) := by
    intro m D0 D' g q a1 a2 a3 a4 a5
    have hle := tE_le (T := T) a4
    have fin := h0 m D0 D' g _ (tkA (upd s 8 (nI m)) T l q) a1 a2 a3 hle.1 a5 tkA_low
    refine iX11_fault_18 rfl (iX11_fault_19 (iX11_fault_20 (fun _ => (iX11_fault_42 (iX11_fault_43 (fun _ => (iX11_fault_50 (iX11_fault_51 rfl rfl ?_))) (fun h => False.elim (by revert h; decide))))) (fun h => False.elim (by revert h; decide))))
    exact iX11_fault_54 fin
  have bad2 : ∀ m D0 D' g q, Chn T l D0 g m → (m = 0 ∨ ¬ (tkR T l (g m)).1 = 3) → m ≤ 30 → q ≤ l → (∀ nm, prI T l m (g m) nm = .inl (tS T l q)) → V kX11_fault 38 [some (.ref 16), some (.int 1)] [.int 0] (mW R T K D' (tkA (upd s 8 (nI m)) T l q)) 0 0 (qI Q) := by
    intro m D0 D' g q a1 a2 a3 a4 a5
    have hle := tE_le (T := T) a4
    have fin := h0 m D0 D' g _ (tkA (upd s 8 (nI m)) T l q) a1 a2 a3 hle.1 a5 tkA_low
    refine iX11_fault_38 rfl (iX11_fault_39 (iX11_fault_19 (iX11_fault_20 (fun _ => (iX11_fault_42 (iX11_fault_43 (fun _ => (iX11_fault_50 (iX11_fault_51 rfl rfl ?_))) (fun h => False.elim (by revert h; decide))))) (fun h => False.elim (by revert h; decide)))))
    exact iX11_fault_54 fin
  have up8 : ∀ a b, upd (upd s 8 a) 8 b = upd s 8 b := fun a b => by
    funext j
    by_cases h : j = 8
    · subst h
      rw [upE, upE]
    · rw [upN h, upN h, upN h]
  have key : ∀ m, m ≤ 31 → ∀ D' g, Chn T l D' g m → 1 ≤ m → 5 * m ≤ g m → g m ≤ l → V kX11_fault 19 [some (.ref 16), some (.int 1)] [] (mW R T K D' (tkA (upd s 8 (nI m)) T l (g m))) 0 0 (qI Q) := by
    refine dn 31 ?_
    intro m hm ih D' g ch m1 m5 ml
    have hle := tE_le (T := T) ml
    refine iX11_fault_19 (iX11_fault_20 (fun h => False.elim (by revert h; decide)) (fun _ => (iX11_fault_23 (iX11_fault_24 rfl rfl (iX11_fault_27 (iX11_fault_28 rfl rfl ?_))))))
    refine iX11_fault_31 (fun z => ?_) (fun z => ?_)
    · have z : s 0 ≤ nI (tS T l (g m)) := z
      rw [hl] at z
      have z := (nI_leI (by omega) (by omega)).mp z
      have fin := h1 m D' g (tkA (upd s 8 (nI m)) T l (g m)) ch m1 (by omega) (tk_over.mpr z) rfl tkA_low
      refine iX11_fault_42 (iX11_fault_43 (fun h => False.elim (by revert h; decide)) (fun _ => (iX11_fault_46 (iX11_fault_47 ?_))))
      exact iX11_fault_54 fin
    · have z2 : ¬ l ≤ tS T l (g m) := fun a => z (by show s 0 ≤ nI (tS T l (g m)); rw [hl]; exact nI_le a (by omega))
      have z3 : ¬ (tkR T l (g m)).1 = 3 := fun a => z2 (tk_over.mp a)
      refine iX11_fault_34 (iX11_fault_35 rfl (Nat.le_of_ble_eq_true rfl) (A_item (nm := fun _ => 0) (rm := m) (s := upd s 8 (nI m)) hl hl2 ml rfl m5 (fun q D2 e hq => ?_) (fun w nm2 p2 D2 e hw hw0 d0 d1 d2 p5 pl => ?_)))
      · exact bad2 m D' D2 g q ch (Or.inr z3) (by omega) hq (fun nm => (prI_ind nm).1 _ e)
      · obtain ⟨g', ch', eg⟩ := Chn_ext ch (Or.inr z3) e hw hw0 d0 d1 d2
        rw [up8]
        have nx := ih (by omega) D2 g' ch' (by omega) (by omega) (by omega)
        rw [eg] at nx
        refine iX11_fault_38 rfl (iX11_fault_39 ?_)
        exact nx
  have start : V kX11_fault 14 [some (.ref 16), none] [] (mW R T K D (tkA (upd s 8 0) T l 0)) 0 0 (qI Q) := by
    refine iX11_fault_14 (iX11_fault_15 rfl (Nat.le_of_ble_eq_true rfl) (A_item (nm := fun _ => 0) (rm := 0) (s := upd s 8 0) hl hl2 (Nat.zero_le _) rfl (Nat.zero_le _) (fun q D2 e hq => ?_) (fun w nm2 p2 D2 e hw hw0 d0 d1 d2 p5 pl => ?_)))
    · exact bad 0 D D2 (fun _ => 0) q (Chn_0 T l D) (Or.inl rfl) (by omega) hq (fun nm => (prI_ind nm).1 _ e)
    · obtain ⟨g', ch', eg⟩ := Chn_ext (Chn_0 T l D) (Or.inl rfl) e hw hw0 d0 d1 d2
      rw [up8]
      have eg : g' 1 = p2 := eg
      have nx := key 1 (by omega) D2 g' ch' (by omega) (by omega) (by omega)
      rw [eg] at nx
      refine iX11_fault_18 rfl ?_
      exact nx
  refine iX11_fault_0 (iX11_fault_1 (iX11_fault_2 rfl (Nat.le_of_ble_eq_true rfl) (iX11_fault_5 (iX11_fault_6 (iX11_fault_7 rfl (Nat.le_of_ble_eq_true rfl) ?_)))))
  change V kX11_fault 10 _ _ (mW R T K D (upd (upd s 5 0) 8 0)) 0 0 _
  refine iX11_fault_10 (iX11_fault_11 rfl (Nat.le_of_ble_eq_true rfl) (M_token (s := upd (upd s 5 0) 8 0) (q := 0) hl hl2 rfl (Nat.zero_le _) ?_))
  have e : tkM (upd (upd s 5 0) 8 0) (nI (tE T l (tS T l 0))) (nI (tS T l 0)) (nI (tE T l (tS T l 0))) = tkA (upd s 8 0) T l 0 := by
    funext j
    unfold tkA tkM
    by_cases h5 : j = 5
    · rw [if_pos h5, if_pos h5]
    · rw [if_neg h5, if_neg h5]
      by_cases h8 : j = 8
      · subst h8
        rfl
      · rw [upN h8, upN h5, upN h8]
  rw [e]
  exact start
end Fault
