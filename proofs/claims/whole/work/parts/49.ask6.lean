/-- a row's part, laid elsewhere -/
def cpR (R : Nat → Int32) (f t m : Nat) : Nat → Int32 := fun j => if t ≤ j ∧ j < t + m then R (f + (j - t)) else R j
theorem cpR_0 (R : Nat → Int32) (f t : Nat) : cpR R f t 0 = R := by
  funext j
  unfold cpR
  rw [if_neg (by omega)]
theorem cpR_src {R : Nat → Int32} {f t m j : Nat} (h : f + 113 ≤ t ∨ t + 113 ≤ f) (hm : m ≤ 113) (hj : j < 113) : cpR R f t m (f + j) = R (f + j) := by
  unfold cpR
  rw [if_neg (by omega)]
theorem cpR_step {R : Nat → Int32} {f t m : Nat} : upd (cpR R f t m) (t + m) (R (f + m)) = cpR R f t (m + 1) := by
  funext j
  unfold upd cpR
  by_cases h : j = t + m
  · subst h
    rw [if_pos rfl, if_pos (by omega), show t + m - t = m by omega]
  · rw [if_neg h]
    by_cases g : t ≤ j ∧ j < t + m
    · rw [if_pos g, if_pos (by omega)]
    · rw [if_neg g, if_neg (by omega)]
def wN (f : Nat → Int32) : Nat → Nat
  | 0 => 0
  | i + 1 => wN f i + tn (f i)
theorem wN_eq {f : Nat → Int32} {n M : Nat} (hM : M ≤ 100) (hn : n ≤ 100) (h : ∀ i, i < n → ∃ m, m ≤ M ∧ f i = nI m) : ∀ i, i ≤ n → l_sum f i = nI (wN f i) ∧ wN f i ≤ M * i
  | 0, _ => ⟨rfl, Nat.zero_le _⟩
  | i + 1, hi => by
    obtain ⟨h1, h2⟩ := wN_eq hM hn h i (by omega)
    obtain ⟨m, hm, e⟩ := h i (by omega)
    have e2 : tn (f i) = m := by rw [e]; exact tn_nI (by omega)
    have e3 : wN f (i + 1) = wN f i + m := by
      show wN f i + tn (f i) = _
      rw [e2]
    constructor
    · show l_sum f i + f i = _
      rw [h1, e, nI_add, e3]
    · rw [e3, Nat.mul_succ]
      omega
theorem nI_sub {a b : Nat} (h : b ≤ a) : nI a - nI b = nI (a - b) := by
  have : nI a = nI (a - b) + nI b := by rw [nI_add, Nat.sub_add_cancel h]
  rw [this, Int32.add_sub_cancel]
/-- ranges -/
def Rg (c : Ch) (n d : Nat) : Prop := (∀ i, i < n → ∃ m, (1 ≤ m ∧ m ≤ 9) ∧ c.2 0 i = nI m) ∧ (∀ i, i < d → ∃ m, m ≤ 3 ∧ c.2 1 i = nI m) ∧ (∃ b o, c.1 1 = nI b ∧ c.1 2 = nI o ∧ o ≤ b ∧ b ≤ wN (c.2 0) n)
theorem Rg.th {c : Ch} {n d : Nat} (h : Rg c n d) (hn : n ≤ 20) : ∀ i, i ≤ n → l_sum (c.2 0) i = nI (wN (c.2 0) i) ∧ wN (c.2 0) i ≤ 9 * i :=
  wN_eq (n := n) (M := 9) (by omega) (by omega) (fun i hi => by
    obtain ⟨m, h1, h2⟩ := h.1 i hi
    exact ⟨m, h1.2, h2⟩)
theorem kBre_r (v : Nat) (t : Int32) : ∃ m, m ≤ 2 ∧ kBre v t = nI m := by
  match v with
  | 0 => exact ⟨0, by omega, rfl⟩
  | 1 => exact ⟨0, by omega, rfl⟩
  | 2 => exact ⟨1, by omega, rfl⟩
  | 3 => exact ⟨0, by omega, rfl⟩
  | 4 =>
    by_cases h : rem2 t = 0
    · exact ⟨0, by omega, by show 0 + (if rem2 t = 0 then 0 else 1) = _; rw [if_pos h]; rfl⟩
    · exact ⟨1, by omega, by show 0 + (if rem2 t = 0 then 0 else 1) = _; rw [if_neg h]; rfl⟩
  | v + 5 => exact ⟨2, by omega, rfl⟩
theorem cFl_r {c : Ch} {n d k : Nat} (h : Rg c n d) (hd : d ≤ 5) (hk : k ≤ 6) (t : Int32) : ∃ f, f ≤ 28 ∧ cFl c d k t = nI f := by
  have h1 := wN_eq (f := cDr c (c.1 5)) (n := d) (M := 3) (by omega) (by omega) (fun i hi => by
    unfold cDr
    split
    · exact h.2.1 i hi
    · exact ⟨0, by omega, rfl⟩) d (Nat.le_refl _)
  have h2 := wN_eq (f := bBre c.2 t) (n := k) (M := 2) (by omega) (by omega) (fun i hi => by
    unfold bBre
    split
    · exact kBre_r _ _
    · exact ⟨0, by omega, rfl⟩) k (Nat.le_refl _)
  refine ⟨1 + wN (cDr c (c.1 5)) d + wN (bBre c.2 t) k, by omega, ?_⟩
  unfold cFl
  rw [h1.1, h2.1, show (1 : Int32) = nI 1 from rfl, nI_add, nI_add]
theorem mthS_r {c : Ch} {n d k : Nat} (h : Rg c n d) (hn : n ≤ 20) (hd : d ≤ 5) (hk : k ≤ 6) (w x : Int64) : ∀ j, j ≤ 60 → ∃ v, v ≤ 180 + 28 * j ∧ mthS c d k w x j = nI v
  | 0, _ => by
    obtain ⟨b, o, h1, h2, h3, h4⟩ := h.2.2
    have := (h.th hn n (Nat.le_refl _)).2
    exact ⟨b, by omega, h1⟩
  | j + 1, hj => by
    obtain ⟨v, h1, h2⟩ := mthS_r h hn hd hk w x j (by omega)
    unfold mthS
    split
    · exact ⟨v, by omega, h2⟩
    · obtain ⟨f, h3, h4⟩ := cFl_r h hd hk (c.1 3 + nI j)
      exact ⟨v + f, by omega, by rw [h2, h4, nI_add]⟩
section Ask6
variable {c : Ch} {R T K D s : Nat → Int32} {n d p u k i : Nat} {x y z t w : Int32} {Q : Int32 → Wd → Prop} {ws : Wd}
theorem N_loan (r : Rl c R n d p u k) (rg : Rg c n d) (hb : ¬ (0 ≤ x ∧ x ≤ 1) → Q (-2) (mW R T K D (bump s 1))) (ok : 0 ≤ x → x ≤ 1 → Q (loanR c n x) (mW R T K D s)) : CallI kX11_loan [.ref 16, .int x] (mW R T K D s) Q := by
  refine e_X11_loan ?_
  have hn20 := r.ok.2.1.1.2
  unfold loanR at ok
  refine iX11_loan_0 (iX11_loan_1 (iX11_loan_2 (iX11_loan_3 ?_)))
  refine iX11_loan_4 (Nat.le_of_ble_eq_true rfl) (S_in (lo := 0) (hi := 1) rfl rfl (fun a b => ?_) (fun a => ?_))
  · have ok := ok a b
    obtain ⟨b, o, eb, eo, hob, hbw⟩ := rg.2.2
    have hw := rg.th hn20
    have hwn := (hw n (Nat.le_refl _)).2
    have fin : ∀ j, j ≤ n → wN (c.2 0) j ≤ o → j = owL (c.2 0) (c.1 2) n 0 → V kX11_loan 65 [some (.ref 16), some (.int x), some (.int (nI j)), some (.int (nI (o - wN (c.2 0) j)))] [] (mW R T K D s) 0 0 (qI Q) := by
      intro j hj hle he
      rw [← he, eo, (hw j hj).1, nI_sub hle] at ok
      refine iX11_loan_65 ?_
      refine iX11_loan_66 (fun q => ?_) (fun q => ?_)
      · rw [if_neg q] at ok
        refine iX11_loan_73 ?_
        exact iX11_loan_74 ok
      · rw [if_pos q] at ok
        refine iX11_loan_69 (iX11_loan_70 ?_)
        exact iX11_loan_74 ok
    have key : ∀ j, j ≤ n → wN (c.2 0) j ≤ o → owL (c.2 0) (c.1 2) (n - j) j = owL (c.2 0) (c.1 2) n 0 → V kX11_loan 26 [some (.ref 16), some (.int x), some (.int (nI j)), some (.int (nI (o - wN (c.2 0) j)))] [] (mW R T K D s) 0 0 (qI Q) := by
      refine dn n ?_
      intro j hj ih hle he
      refine iX11_loan_26 (iX11_loan_27 (iX11_loan_28 rfl rfl (iX11_loan_31 (iX11_loan_32 (j := 0) rfl rfl (by decide) (by decide) ?_))))
      rw [r.e0, r.ok.2.1.1.1]
      refine iX11_loan_33 (fun q => ?_) (fun q => ?_)
      · have e := eq_of hj (by omega) q
        subst e
        rw [Nat.sub_self] at he
        exact fin j (Nat.le_refl _) hle he
      · have hlt := nlt_of (by omega) q
        have e1 : nI j + 1 = nI (j + 1) := nI_1 j
        obtain ⟨m, hm, em⟩ := rg.1 j hlt
        have ew : wN (c.2 0) (j + 1) = wN (c.2 0) j + m := by
          show _ + tn (c.2 0 j) = _
          rw [em, tn_nI (by omega)]
        have eO : owL (c.2 0) (c.1 2) (n - j) j = if l_sum (c.2 0) (j + 1) ≤ c.1 2 then owL (c.2 0) (c.1 2) (n - (j + 1)) (j + 1) else j := by
          rw [show n - j = (n - (j + 1)) + 1 by omega]
          rfl
        have h9 := (hw (j + 1) hlt).2
        rw [(hw (j + 1) hlt).1, eo] at eO
        refine iX11_loan_36 (iX11_loan_37 (iX11_loan_38 rfl rfl (iX11_loan_41 (iX11_loan_42 (iX11_loan_43 (iX11_loan_44 rfl (nI_add 4 j) (by omega) (by decide) ?_))))))
        rw [r.th j hlt, em]
        refine iX11_loan_45 (fun q2 => ?_) (fun q2 => ?_)
        · have hq := (nI_ltI (by omega) (by omega)).mp q2
          rw [if_neg (nI_ge (by omega) (by omega)), ← eo, he] at eO
          exact fin j hj hle eO.symm
        · have hq : m ≤ o - wN (c.2 0) j := by
            rcases Nat.lt_or_ge (o - wN (c.2 0) j) m with f | f
            · exact absurd (nI_lt f (by omega)) q2
            · exact f
          rw [if_pos (nI_le (by omega) (by omega)), ← eo, he] at eO
          refine iX11_loan_48 (iX11_loan_49 (iX11_loan_50 rfl rfl (iX11_loan_53 (iX11_loan_54 (iX11_loan_55 (iX11_loan_56 rfl (nI_add 4 j) (by omega) (by decide) ?_))))))
          rw [r.th j hlt, em]
          refine iX11_loan_57 ?_
          rw [nI_sub hq, show o - wN (c.2 0) j - m = o - wN (c.2 0) (j + 1) by omega]
          refine iX11_loan_58 rfl (iX11_loan_59 rfl (iX11_loan_62 ?_))
          rw [e1]
          exact ih hlt (by omega) eO.symm
    refine iX11_loan_7 (fun _ => (iX11_loan_17 (iX11_loan_18 rfl (iX11_loan_19 (iX11_loan_20 rfl rfl (iX11_loan_23 (iX11_loan_24 (j := 3) rfl rfl (by decide) (by decide) ?_))))))) (fun h => False.elim (by revert h; decide))
    rw [r.e3, eo]
    refine iX11_loan_25 rfl ?_
    exact key 0 (Nat.zero_le _) (Nat.zero_le _) rfl
  · refine iX11_loan_7 (fun h => False.elim (by revert h; decide)) (fun _ => (iX11_loan_10 (iX11_loan_11 (iX11_loan_13 rfl (Nat.le_of_ble_eq_true rfl) (M_isBad ?_)))))
    exact iX11_loan_16 (hb a)
end Ask6
