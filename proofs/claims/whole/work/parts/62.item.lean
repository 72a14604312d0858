theorem wdF_none {f : Nat → Int32} {s e : Nat} : ∀ j, (∀ v, v < j → ¬ spl f s e v) → wdF f s e j = -1
  | 0, _ => rfl
  | j + 1, h => wdF_n (wdF_none j (fun v hv => h v (by omega))) (h j (by omega))
theorem wdF_at {f : Nat → Int32} {s e w : Nat} (hw : w < 6) (h : ∀ v, v < w → ¬ spl f s e v) (hs : spl f s e w) : wdF f s e 6 = nI w := by
  have h1 : wdF f s e (w + 1) = nI w := wdF_y (wdF_none w h) hs
  have h2 : ∀ z, wdF f s e (w + 1 + z) = nI w := by
    intro z
    induction z with
    | zero => exact h1
    | succ z ih =>
      have q : ¬ wdF f s e (w + 1 + z) = -1 := by
        rw [ih]
        exact nI_nm1 (by omega)
      exact (wdF_k q).trans ih
  have := h2 (5 - w)
  rw [show w + 1 + (5 - w) = 6 by omega] at this
  exact this
section MItem
variable {R T K D s : Nat → Int32} {s0 e : Nat} {Q : Int32 → Wd → Prop}
theorem M_itemWord (hp : s 6 = nI s0) (he : s 7 = nI e) (hse : s0 ≤ e) (he2 : e ≤ 150) (h : Q (wdF T s0 e 6) (mW R T K D s)) : CallI kX11_itemWord [.ref 16] (mW R T K D s) Q := by
  refine e_X11_itemWord ?_
  have stp : ∀ w, (∀ v, v < w → ¬ spl T s0 e v) → ¬ spl T s0 e w → ∀ v, v < w + 1 → ¬ spl T s0 e v := fun w a b v hv => by
    rcases Nat.lt_or_ge v w with c | c
    · exact a v c
    · have : v = w := by omega
      subst this
      exact b
  refine iX11_itemWord_0 (iX11_itemWord_1 (iX11_itemWord_3 ?_))
  refine iX11_itemWord_5 rfl (Nat.le_of_ble_eq_true rfl) (M_isWord (w := 0) (by decide) hp he hse he2 (fun g => ?_) (fun g0 => ?_))
  · rw [wdF_at (w := 0) (by decide) (fun v hv => absurd hv (by omega)) g] at h
    refine iX11_itemWord_8 (fun h => False.elim (by revert h; decide)) (fun _ => (iX11_itemWord_11 (iX11_itemWord_12 ?_)))
    exact iX11_itemWord_88 h
  have n0 := stp 0 (fun v hv => absurd hv (by omega)) g0
  refine iX11_itemWord_8 (fun _ => (iX11_itemWord_15 (iX11_itemWord_16 (iX11_itemWord_18 ?_)))) (fun h => False.elim (by revert h; decide))
  refine iX11_itemWord_19 rfl (Nat.le_of_ble_eq_true rfl) (M_isWord (w := 1) (by decide) hp he hse he2 (fun g => ?_) (fun g1 => ?_))
  · rw [wdF_at (w := 1) (by decide) n0 g] at h
    refine iX11_itemWord_22 (fun h => False.elim (by revert h; decide)) (fun _ => (iX11_itemWord_25 (iX11_itemWord_26 ?_)))
    exact iX11_itemWord_88 h
  have n1 := stp 1 n0 g1
  refine iX11_itemWord_22 (fun _ => (iX11_itemWord_29 (iX11_itemWord_30 (iX11_itemWord_32 ?_)))) (fun h => False.elim (by revert h; decide))
  refine iX11_itemWord_33 rfl (Nat.le_of_ble_eq_true rfl) (M_isWord (w := 2) (by decide) hp he hse he2 (fun g => ?_) (fun g2 => ?_))
  · rw [wdF_at (w := 2) (by decide) n1 g] at h
    refine iX11_itemWord_36 (fun h => False.elim (by revert h; decide)) (fun _ => (iX11_itemWord_39 (iX11_itemWord_40 ?_)))
    exact iX11_itemWord_88 h
  have n2 := stp 2 n1 g2
  refine iX11_itemWord_36 (fun _ => (iX11_itemWord_43 (iX11_itemWord_44 (iX11_itemWord_46 ?_)))) (fun h => False.elim (by revert h; decide))
  refine iX11_itemWord_47 rfl (Nat.le_of_ble_eq_true rfl) (M_isWord (w := 3) (by decide) hp he hse he2 (fun g => ?_) (fun g3 => ?_))
  · rw [wdF_at (w := 3) (by decide) n2 g] at h
    refine iX11_itemWord_50 (fun h => False.elim (by revert h; decide)) (fun _ => (iX11_itemWord_53 (iX11_itemWord_54 ?_)))
    exact iX11_itemWord_88 h
  have n3 := stp 3 n2 g3
  refine iX11_itemWord_50 (fun _ => (iX11_itemWord_57 (iX11_itemWord_58 (iX11_itemWord_61 ?_)))) (fun h => False.elim (by revert h; decide))
  refine iX11_itemWord_62 rfl (Nat.le_of_ble_eq_true rfl) (M_isWord (w := 4) (by decide) hp he hse he2 (fun g => ?_) (fun g4 => ?_))
  · rw [wdF_at (w := 4) (by decide) n3 g] at h
    refine iX11_itemWord_65 (fun h => False.elim (by revert h; decide)) (fun _ => (iX11_itemWord_68 (iX11_itemWord_69 ?_)))
    exact iX11_itemWord_88 h
  have n4 := stp 4 n3 g4
  refine iX11_itemWord_65 (fun _ => (iX11_itemWord_72 (iX11_itemWord_73 (iX11_itemWord_75 ?_)))) (fun h => False.elim (by revert h; decide))
  refine iX11_itemWord_77 rfl (Nat.le_of_ble_eq_true rfl) (M_isWord (w := 5) (by decide) hp he hse he2 (fun g => ?_) (fun g5 => ?_))
  · rw [wdF_at (w := 5) (by decide) n4 g] at h
    refine iX11_itemWord_80 (fun h => False.elim (by revert h; decide)) (fun _ => (iX11_itemWord_83 (iX11_itemWord_84 ?_)))
    exact iX11_itemWord_88 h
  rw [wdF_none 6 (stp 5 n4 g5)] at h
  refine iX11_itemWord_80 (fun _ => (iX11_itemWord_87 ?_)) (fun h => False.elim (by revert h; decide))
  exact iX11_itemWord_88 h
end MItem
