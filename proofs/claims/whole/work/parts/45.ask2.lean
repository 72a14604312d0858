/-- how many, and the first of them -/
def CF (a f : Int32) (i : Nat) : Prop := ∃ m, m ≤ i ∧ a = nI m ∧ (m = 0 ↔ f = -1)
theorem CF.zero : CF 0 (-1) 0 := ⟨0, Nat.le_refl _, rfl, by simp⟩
theorem CF.stay {a f : Int32} {i : Nat} (h : CF a f i) : CF a f (i + 1) := by
  obtain ⟨m, h1, h2, h3⟩ := h
  exact ⟨m, by omega, h2, h3⟩
theorem CF.step {a f v : Int32} {i : Nat} (h : CF a f i) (hv : ¬ v = -1) : CF (a + 1) (if f = -1 then v else f) (i + 1) := by
  obtain ⟨m, h1, h2, h3⟩ := h
  refine ⟨m + 1, by omega, by rw [h2, nI_1], ⟨fun e => absurd e (by omega), fun e => ?_⟩⟩
  split at e
  · exact absurd e hv
  · rename_i q
    exact absurd e q
theorem CF.iff {a f : Int32} {i : Nat} (h : CF a f i) (hi : i < 1000000) : a = 0 ↔ f = -1 := by
  obtain ⟨m, h1, h2, h3⟩ := h
  rw [← h3, h2]
  exact nI_eq (b := 0) (by omega) (by decide)
theorem nI_nm1 {m : Nat} (h : m < 1000000) : ¬ nI m = -1 := fun e => by
  have := nI_pos' (n := m) (by omega)
  rw [e] at this
  exact absurd this (by decide)
theorem bpG_or (c : Ch) (n d k : Nat) (x : Int32) (i : Nat) : bpG c n d k x i = 0 ∨ bpG c n d k x i = 1 := by
  unfold bpG
  split
  · exact Or.inl rfl
  · split
    · exact Or.inr rfl
    · exact Or.inl rfl
theorem bpS_ge (c : Ch) (n d k : Nat) (x : Int32) : ∀ i, -1 ≤ (bpS c n d k x i).2
  | 0 => (by decide : (-1 : Int32) ≤ -1)
  | i + 1 => by
    unfold bpS
    split
    · exact bpS_ge c n d k x i
    · split
      · exact bpS_ge c n d k x i
      · rcases bpG_or c n d k x i with h | h
        · rw [h]; exact (by decide : (-1 : Int32) ≤ 0)
        · rw [h]; exact (by decide : (-1 : Int32) ≤ 1)
section Ask2
variable {c : Ch} {R T K D s : Nat → Int32} {n d p u k i : Nat} {x y z t w : Int32} {Q : Int32 → Wd → Prop}
theorem M_wouldCount (r : Rl c R n d p u k) (sm : Sm c n d) (hi : i < n) (hp : ¬ past c i) (h : Q (bpG c n d k x i) (mW R T K D s)) : CallI kX11_wouldCount [.ref 16, .int x, .int (nI i)] (mW R T K D s) Q := by
  refine e_X11_wouldCount ?_
  have ef : fall c n d k (c.1 5) i = mOf c (minT c n d k (c.1 5) (l_sum (c.2 0) i)) := by unfold fall; rw [if_neg hp]
  unfold bpG at h
  rw [← ef] at h
  refine iX11_wouldCount_0 (iX11_wouldCount_1 (iX11_wouldCount_2 (iX11_wouldCount_3 rfl (Nat.le_of_ble_eq_true rfl) (M_openSet r sm.1 (iX11_wouldCount_6 rfl (Nat.le_of_ble_eq_true rfl) (M_fallsBy r sm (Nat.le_of_lt hi) (iX11_wouldCount_9 rfl (iX11_wouldCount_10 (iX11_wouldCount_11 ?_)))))))))
  refine iX11_wouldCount_12 (fun q => ?_) (fun q => ?_)
  · rw [if_pos q] at h
    refine iX11_wouldCount_28 ?_
    exact iX11_wouldCount_29 h
  · rw [if_neg q] at h
    refine iX11_wouldCount_15 (iX11_wouldCount_16 (iX11_wouldCount_17 rfl (Nat.le_of_ble_eq_true rfl) (M_houseIn r ((fall_or sm).resolve_left q) (iX11_wouldCount_20 ?_))))
    refine iX11_wouldCount_21 (fun q2 => ?_) (fun q2 => ?_)
    · rw [if_neg q2] at h
      refine iX11_wouldCount_28 ?_
      exact iX11_wouldCount_29 h
    · rw [if_pos q2] at h
      refine iX11_wouldCount_24 (iX11_wouldCount_25 ?_)
      exact iX11_wouldCount_29 h
theorem N_set (r : Rl c R n d p u k) (sm : Sm c n d) (hb : ¬ ((0 ≤ x ∧ x ≤ 2) ∧ (1 ≤ y ∧ y ≤ 2) ∧ (0 ≤ z ∧ z ≤ 2)) → Q (-10) (mW R T K D (bump s 1))) (ok : (0 ≤ x ∧ x ≤ 2) → (1 ≤ y ∧ y ≤ 2) → (0 ≤ z ∧ z ≤ 2) → Q (bpR c n d k x y z) (mW R T K D s)) : CallI kX11_set [.ref 16, .int x, .int y, .int z] (mW R T K D s) Q := by
  refine e_X11_set ?_
  have hn20 := r.ok.2.1.1.2
  have bad : ¬ ((0 ≤ x ∧ x ≤ 2) ∧ (1 ≤ y ∧ y ≤ 2) ∧ (0 ≤ z ∧ z ≤ 2)) → V kX11_set 31 [some (.ref 16), some (.int x), some (.int y), some (.int z), none, none, none, none] [] (mW R T K D s) 0 0 (qI Q) := by
    intro q
    refine iX11_set_31 (iX11_set_32 (iX11_set_34 rfl (Nat.le_of_ble_eq_true rfl) (M_isBad ?_)))
    exact iX11_set_37 (hb q)
  refine iX11_set_0 ?_
  refine iX11_set_1 (Nat.le_of_ble_eq_true rfl) (M_isParty (fun a b => ?_) (fun a => ?_))
  · refine iX11_set_4 (fun h => False.elim (by revert h; decide)) (fun _ => (iX11_set_7 (iX11_set_8 (iX11_set_9 (iX11_set_10 ?_)))))
    refine iX11_set_13 (Nat.le_of_ble_eq_true rfl) (S_in (lo := 1) (hi := 2) rfl rfl (fun a2 b2 => ?_) (fun a2 => ?_))
    · refine iX11_set_16 (fun h => False.elim (by revert h; decide)) (fun _ => (iX11_set_19 (iX11_set_20 (iX11_set_21 (iX11_set_22 ?_)))))
      refine iX11_set_25 (Nat.le_of_ble_eq_true rfl) (S_in (lo := 0) (hi := 2) rfl rfl (fun a3 b3 => ?_) (fun a3 => ?_))
      · have ok := ok ⟨a, b⟩ ⟨a2, b2⟩ ⟨a3, b3⟩
        refine iX11_set_28 (fun _ => (iX11_set_38 (iX11_set_39 rfl (iX11_set_41 (iX11_set_42 rfl (iX11_set_44 (iX11_set_45 rfl ?_))))))) (fun h => False.elim (by revert h; decide))
        have key : ∀ j, j ≤ n → ∀ x7, V kX11_set 47 [some (.ref 16), some (.int x), some (.int y), some (.int z), some (.int (bpS c n d k x j).1), some (.int (bpS c n d k x j).2), some (.int (nI j)), x7] [] (mW R T K D s) 0 0 (qI Q) := by
          refine dn n ?_
          intro j hj ih x7
          refine iX11_set_47 (iX11_set_49 (iX11_set_50 rfl rfl (iX11_set_53 (iX11_set_54 (j := 0) rfl rfl (by decide) (by decide) ?_))))
          rw [r.e0, r.ok.2.1.1.1]
          refine iX11_set_55 (fun q => ?_) (fun q => ?_)
          · have e := eq_of hj (by omega) q
            subst e
            unfold bpR at ok
            refine iX11_set_118 (iX11_set_120 ?_)
            refine iX11_set_121 (fun q1 => ?_) (fun q1 => ?_)
            · rw [if_neg q1] at ok
              refine iX11_set_128 ?_
              refine iX11_set_129 (fun q2 => ?_) (fun q2 => ?_)
              · rw [if_neg q2] at ok
                refine iX11_set_139 (iX11_set_140 ?_)
                refine iX11_set_141 (fun q3 => ?_) (fun q3 => ?_)
                · have g : ¬ y < z := by rw [q3]; exact i32_len a2
                  rw [if_neg g] at ok
                  refine iX11_set_149 (iX11_set_151 ?_)
                  exact iX11_set_155 ok
                · refine iX11_set_144 (iX11_set_145 ?_)
                  refine iX11_set_146 (fun q4 => ?_) (fun q4 => ?_)
                  · have g : y < z := by
                      obtain ⟨m, hm, e⟩ := nI_of2 (M := 2) (n := 2) (by decide) (i32_len a3) b3
                      obtain ⟨l, hl, e'⟩ := nI_of2 (M := 2) (n := 2) (by decide) (i32_len (Int32.le_trans (by decide : (0 : Int32) ≤ 1) a2)) b2
                      subst e
                      subst e'
                      have f1 : m ≠ 0 := fun f => q2 (by rw [f]; rfl)
                      have f2 : m ≠ 1 := fun f => q3 (by rw [f]; rfl)
                      have f3 : l ≠ 2 := fun f => q4 (by rw [f]; rfl)
                      exact nI_lt (by omega) (by omega)
                    rw [if_pos g] at ok
                    refine iX11_set_154 ?_
                    exact iX11_set_155 ok
                  · have g : ¬ y < z := by rw [q4]; exact i32_len b3
                    rw [if_neg g] at ok
                    refine iX11_set_149 (iX11_set_151 ?_)
                    exact iX11_set_155 ok
              · rw [if_pos q2, Int32.mul_comm] at ok
                refine iX11_set_132 (iX11_set_133 (iX11_set_135 (iX11_set_136 ?_)))
                exact iX11_set_155 ok
            · rw [if_pos q1] at ok
              refine iX11_set_124 (iX11_set_125 ?_)
              exact iX11_set_155 ok
          · have hlt := nlt_of (by omega) q
            have e1 : nI j + 1 = nI (j + 1) := nI_1 j
            have e2 : bpS c n d k x (j + 1) = if past c j then bpS c n d k x j else if bpG c n d k x j ≤ (bpS c n d k x j).2 then bpS c n d k x j else (nI j, bpG c n d k x j) := rfl
            have stay : ∀ v, v ≤ (bpS c n d k x j).2 → bpS c n d k x (j + 1) = bpS c n d k x j → V kX11_set 78 [some (.ref 16), some (.int x), some (.int y), some (.int z), some (.int (bpS c n d k x j).1), some (.int (bpS c n d k x j).2), some (.int (nI j)), x7] [.int v] (mW R T K D s) 0 0 (qI Q) := by
              intro v hv he
              have ih := ih hlt (some (.int v))
              rw [he] at ih
              refine iX11_set_78 rfl (iX11_set_80 (iX11_set_82 (iX11_set_84 (fun _ => (iX11_set_92 (iX11_set_94 rfl (iX11_set_96 (iX11_set_98 (iX11_set_100 (fun _ => (iX11_set_108 (iX11_set_110 rfl (iX11_set_112 rfl (iX11_set_115 ?_))))) (fun h => False.elim (by exact h hv)))))))) (fun h => False.elim (by exact h hv)))))
              rw [e1]
              exact ih
            refine iX11_set_58 (iX11_set_59 (iX11_set_61 rfl (Nat.le_of_ble_eq_true rfl) (M_hasFallen r (Nat.le_of_lt hlt) (fun q3 => ?_) (fun q3 => ?_))))
            · rw [if_pos q3] at e2
              refine iX11_set_64 (fun h => False.elim (by revert h; decide)) (fun _ => (iX11_set_67 (iX11_set_68 ?_)))
              exact stay (-1) (bpS_ge c n d k x j) e2
            · rw [if_neg q3] at e2
              refine iX11_set_64 (fun _ => (iX11_set_71 (iX11_set_72 (iX11_set_73 (iX11_set_75 rfl (Nat.le_of_ble_eq_true rfl) (M_wouldCount r sm hlt q3 ?_)))))) (fun h => False.elim (by revert h; decide))
              by_cases q4 : bpG c n d k x j ≤ (bpS c n d k x j).2
              · rw [if_pos q4] at e2
                exact stay _ q4 e2
              · rw [if_neg q4] at e2
                have ih := ih hlt (some (.int (bpG c n d k x j)))
                rw [e2] at ih
                refine iX11_set_78 rfl (iX11_set_80 (iX11_set_82 (iX11_set_84 (fun h => False.elim (by exact q4 h)) (fun _ => (iX11_set_87 (iX11_set_89 (iX11_set_94 rfl (iX11_set_96 (iX11_set_98 (iX11_set_100 (fun h => False.elim (by exact q4 h)) (fun _ => (iX11_set_103 (iX11_set_105 (iX11_set_110 rfl (iX11_set_112 rfl (iX11_set_115 ?_))))))))))))))))
                rw [e1]
                exact ih
        exact key 0 (Nat.zero_le _) none
      · refine iX11_set_28 (fun h => False.elim (by revert h; decide)) (fun _ => ?_)
        exact bad (fun q => a3 q.2.2)
    · refine iX11_set_16 (fun _ => ?_) (fun h => False.elim (by revert h; decide))
      exact bad (fun q => a2 q.2.1)
  · refine iX11_set_4 (fun _ => ?_) (fun h => False.elim (by revert h; decide))
    exact bad (fun q => a q.1)
theorem N_lean (r : Rl c R n d p u k) (hb : ¬ ((0 ≤ x ∧ x ≤ nI p - 1) ∧ (y = -1 ∨ (0 ≤ y ∧ y ≤ 299))) → Q (-10) (mW R T K D (bump s 1))) (ok : ∀ i, i < p → x = nI i → (y = -1 ∨ (0 ≤ y ∧ y ≤ 299)) → Q (c.2 4 i) (mW (upd R (36 + 3 * i + 2) y) T K D s)) : CallI kX11_lean [.ref 16, .int x, .int y] (mW R T K D s) Q := by
  refine e_X11_lean ?_
  have hp9 := r.ok.2.2.1.1.2
  have bad : ¬ ((0 ≤ x ∧ x ≤ nI p - 1) ∧ (y = -1 ∨ (0 ≤ y ∧ y ≤ 299))) → V kX11_lean 20 [some (.ref 16), some (.int x), some (.int y), none] [] (mW R T K D s) 0 0 (qI Q) := by
    intro q
    refine iX11_lean_20 (iX11_lean_21 (iX11_lean_23 rfl (Nat.le_of_ble_eq_true rfl) (M_isBad ?_)))
    exact iX11_lean_26 (hb q)
  refine iX11_lean_0 (iX11_lean_1 (iX11_lean_2 rfl (Nat.le_of_ble_eq_true rfl) (M_isPin r (fun i hi e => ?_) (fun a => ?_))))
  · subst e
    have good : (y = -1 ∨ (0 ≤ y ∧ y ≤ 299)) → V kX11_lean 27 [some (.ref 16), some (.int (nI i)), some (.int y), none] [] (mW R T K D s) 0 0 (qI Q) := by
      intro q
      have ok := ok i hi rfl q
      refine iX11_lean_27 (iX11_lean_28 rfl rfl (iX11_lean_31 (iX11_lean_33 (iX11_lean_34 (iX11_lean_35 (iX11_lean_36 (iX11_lean_37 (iX11_lean_38 (iX11_lean_39 rfl (ix3 36 3 i 2) (by omega) (by decide) ?_)))))))))
      rw [r.p2 i hi]
      refine iX11_lean_40 rfl (iX11_lean_41 (iX11_lean_42 rfl rfl (iX11_lean_45 (iX11_lean_47 (iX11_lean_48 (iX11_lean_49 (iX11_lean_50 (iX11_lean_51 (iX11_lean_52 (iX11_lean_53 (iX11_lean_54 rfl (ix3 36 3 i 2) (by omega) (by decide) (iX11_lean_55 ?_))))))))))))
      exact iX11_lean_56 ok
    refine iX11_lean_5 (fun h => False.elim (by revert h; decide)) (fun _ => (iX11_lean_8 (iX11_lean_9 ?_)))
    refine iX11_lean_10 (fun q => ?_) (fun q => ?_)
    · exact good (Or.inl q)
    · refine iX11_lean_13 ?_
      refine iX11_lean_14 (Nat.le_of_ble_eq_true rfl) (M_isMinute (fun a2 b2 => ?_) (fun a2 => ?_))
      · refine iX11_lean_17 (fun _ => ?_) (fun h => False.elim (by revert h; decide))
        exact good (Or.inr ⟨a2, b2⟩)
      · refine iX11_lean_17 (fun h => False.elim (by revert h; decide)) (fun _ => ?_)
        exact bad (fun z => z.2.elim q a2)
  · refine iX11_lean_5 (fun _ => ?_) (fun h => False.elim (by revert h; decide))
    exact bad (fun q => a q.1)
theorem N_tallow (r : Rl c R n d p u k) (sm : Sm c n d) (hb : ¬ ((0 ≤ x ∧ x ≤ nI p - 1) ∧ (0 ≤ y ∧ y ≤ 1)) → Q (-10) (mW R T K D (bump s 1))) (ok : ∀ i, i < p → x = nI i → (0 ≤ y ∧ y ≤ 1) → Q (tlwR c n d k (slo c i) (if y = 1 then 1 else 0)) (mW R T K D s)) : CallI kX11_tallow [.ref 16, .int x, .int y] (mW R T K D s) Q := by
  refine e_X11_tallow ?_
  have bad : ¬ ((0 ≤ x ∧ x ≤ nI p - 1) ∧ (0 ≤ y ∧ y ≤ 1)) → V kX11_tallow 18 [some (.ref 16), some (.int x), some (.int y)] [] (mW R T K D s) 0 0 (qI Q) := by
    intro q
    refine iX11_tallow_18 (iX11_tallow_19 (iX11_tallow_21 rfl (Nat.le_of_ble_eq_true rfl) (M_isBad ?_)))
    exact iX11_tallow_24 (hb q)
  refine iX11_tallow_0 (iX11_tallow_1 (iX11_tallow_2 rfl (Nat.le_of_ble_eq_true rfl) (M_isPin r (fun i hi e => ?_) (fun a => ?_))))
  · subst e
    have hs1 := (r.ok.2.2.1.at r.ok.2.1.1.2 hi).1
    refine iX11_tallow_5 (fun h => False.elim (by revert h; decide)) (fun _ => (iX11_tallow_8 (iX11_tallow_9 (iX11_tallow_10 (iX11_tallow_11 ?_)))))
    refine iX11_tallow_12 (Nat.le_of_ble_eq_true rfl) (S_in (lo := 0) (hi := 1) rfl rfl (fun a2 b2 => ?_) (fun a2 => ?_))
    · have ok := ok i hi rfl ⟨a2, b2⟩
      have hg : Hw c (y + 1) (tlw (c.2 0) (if y = 1 then 1 else 0)) := by
        obtain ⟨m, hm, e⟩ := nI_of2 (M := 1) (n := 1) (by decide) (i32_len a2) b2
        subst e
        match m, hm with
        | 0, _ => exact Or.inr (Or.inl ⟨rfl, rfl⟩)
        | 1, _ => exact Or.inr (Or.inr ⟨rfl, rfl⟩)
        | m + 2, hm => exact absurd hm (by omega)
      unfold tlwR at ok
      refine iX11_tallow_15 (fun _ => (iX11_tallow_25 (iX11_tallow_26 (iX11_tallow_27 (iX11_tallow_28 rfl (Nat.le_of_ble_eq_true rfl) (M_sliceOf r hi ?_)))))) (fun h => False.elim (by revert h; decide))
      refine iX11_tallow_31 rfl (Nat.le_of_ble_eq_true rfl) (M_hasFallen r (Nat.le_of_lt hs1) (fun q => ?_) (fun q => ?_))
      · rw [if_pos q] at ok
        refine iX11_tallow_34 (fun h => False.elim (by revert h; decide)) (fun _ => (iX11_tallow_37 (iX11_tallow_38 ?_)))
        exact iX11_tallow_64 ok
      · rw [if_neg q] at ok
        refine iX11_tallow_34 (fun _ => (iX11_tallow_41 (iX11_tallow_42 (iX11_tallow_43 (iX11_tallow_44 (iX11_tallow_45 rfl (Nat.le_of_ble_eq_true rfl) (M_sliceOf r hi (iX11_tallow_48 (iX11_tallow_49 (iX11_tallow_50 (iX11_tallow_51 rfl (Nat.le_of_ble_eq_true rfl) (M_above r hg (Nat.le_of_lt hs1) (iX11_tallow_54 (iX11_tallow_55 rfl (Nat.le_of_ble_eq_true rfl) (M_openSet r sm.1 (iX11_tallow_58 (iX11_tallow_59 (iX11_tallow_60 (iX11_tallow_61 rfl (Nat.le_of_ble_eq_true rfl) (M_minutesTo r sm hg ?_)))))))))))))))))))) (fun h => False.elim (by revert h; decide))
        exact iX11_tallow_64 ok
    · refine iX11_tallow_15 (fun h => False.elim (by revert h; decide)) (fun _ => ?_)
      exact bad (fun q => a2 q.2)
  · refine iX11_tallow_5 (fun _ => ?_) (fun h => False.elim (by revert h; decide))
    exact bad (fun q => a q.1)
end Ask2
