theorem bcS : ∀ i, i < 32 → l_sum (fun j => (nI i >>> (nI j &&& 31)) &&& 1) 5 = bcF (nI i) := by decide +kernel
theorem shA_le : ∀ i, i < 32 → ∀ w, w < 32 → (nI i &&& (nI w ^^^ -1)) = 0 → i ≤ w := by decide +kernel
theorem shS_or (c : Ch) (n d k s : Nat) (t : Int32) : ∀ i, shS c n d k s t i = -1 ∨ ∃ m, m < i ∧ shS c n d k s t i = nI m
  | 0 => Or.inl rfl
  | i + 1 => by
    unfold shS
    split
    · exact Or.inr ⟨i, by omega, rfl⟩
    · rcases shS_or c n d k s t i with h | ⟨m, h1, h2⟩
      · exact Or.inl h
      · exact Or.inr ⟨m, by omega, h2⟩
theorem shS_ext {c : Ch} {n d k s : Nat} {t : Int32} (hd : d ≤ 5) (hm : ∃ w, w < 2 ^ d ∧ c.1 5 = nI w) : ∀ e, 2 ^ d + e ≤ 32 → shS c n d k s t (2 ^ d + e) = shS c n d k s t (2 ^ d)
  | 0, _ => rfl
  | e + 1, h => by
    obtain ⟨w, hw, ew⟩ := hm
    have h5 := pow5 hd
    rw [← Nat.add_assoc]
    have q : ¬ shA (c.1 5) (2 ^ d + e) := by
      rw [ew]
      intro z
      have := shA_le (2 ^ d + e) (by omega) w (by omega) z
      omega
    have e2 : shS c n d k s t (2 ^ d + e + 1) = shS c n d k s t (2 ^ d + e) := by
      show (if shA (c.1 5) (2 ^ d + e) ∧ shB (shS c n d k s t (2 ^ d + e)) (2 ^ d + e) ∧ shC c n d k s t (2 ^ d + e) then nI (2 ^ d + e) else shS c n d k s t (2 ^ d + e)) = _
      rw [if_neg (fun z => q z.1)]
    rw [e2]
    exact shS_ext hd ⟨w, hw, ew⟩ e (by omega)
section Ask3
variable {c : Ch} {R T K D s : Nat → Int32} {n d p u k i : Nat} {x y z t w : Int32} {Q : Int32 → Wd → Prop} {ws : Wd}
theorem M_bits (hi : i < 32) (e : y = nI i) (h : Q (bcF y) ws) : CallI kX11_bits [.int y] ws Q := by
  subst e
  refine e_X11_bits ?_
  rw [← bcS i hi] at h
  refine iX11_bits_0 (iX11_bits_1 rfl (iX11_bits_2 (iX11_bits_3 rfl ?_)))
  refine dn 5 (P := fun j => V kX11_bits 4 [some (.int (nI i)), some (.int (l_sum (fun j => (nI i >>> (nI j &&& 31)) &&& 1) j)), some (.int (nI j))] [] ws 0 0 (qI Q)) ?_ 0 (Nat.zero_le _)
  intro j hj ih
  refine iX11_bits_4 (iX11_bits_5 ?_)
  refine iX11_bits_6 (fun q => ?_) (fun q => ?_)
  · have e := eq_of (k := 5) hj (by omega) q
    subst e
    refine iX11_bits_23 ?_
    exact iX11_bits_24 h
  · have hlt := nlt_of (k := 5) (by omega) q
    have ih := ih hlt
    have e1 : nI j + 1 = nI (j + 1) := nI_1 j
    refine iX11_bits_9 (iX11_bits_10 (iX11_bits_11 (iX11_bits_12 (iX11_bits_13 (iX11_bits_14 (iX11_bits_15 (iX11_bits_16 rfl (iX11_bits_17 rfl (iX11_bits_20 ?_)))))))))
    rw [e1]
    exact ih
theorem N_shut (r : Rl c R n d p u k) (sm : Sm c n d) (hb : ¬ (∃ i, i < p ∧ x = nI i ∧ (0 ≤ t ∧ t ≤ 299) ∧ ¬ past c (slo c i)) → Q (-10) (mW R T K D (bump s 1))) (ok : ∀ i, i < p → x = nI i → (0 ≤ t ∧ t ≤ 299) → ¬ past c (slo c i) → Q (shS c n d k (slo c i) t (2 ^ d)) (mW R T K D s)) : CallI kX11_shut [.ref 16, .int x, .int t] (mW R T K D s) Q := by
  refine e_X11_shut ?_
  have hp9 := r.ok.2.2.1.1.2
  have hd5 := r.ok.2.1.2.1.2
  have bad : ¬ (∃ i, i < p ∧ x = nI i ∧ (0 ≤ t ∧ t ≤ 299) ∧ ¬ past c (slo c i)) → V kX11_shut 27 [some (.ref 16), some (.int x), some (.int t), none, none, none, none] [] (mW R T K D s) 0 0 (qI Q) := by
    intro q
    refine iX11_shut_27 (iX11_shut_28 (iX11_shut_30 rfl (Nat.le_of_ble_eq_true rfl) (M_isBad ?_)))
    exact iX11_shut_33 (hb q)
  refine iX11_shut_0 (iX11_shut_1 (iX11_shut_2 rfl (Nat.le_of_ble_eq_true rfl) (M_isPin r (fun i hi e => ?_) (fun a => ?_))))
  · subst e
    have inj : ∀ i', i' < p → nI i = nI i' → i' = i := fun i' hi' e => ((nI_eq (by omega) (by omega)).mp e).symm
    have hs1 := (r.ok.2.2.1.at r.ok.2.1.1.2 hi).1
    refine iX11_shut_5 (fun h => False.elim (by revert h; decide)) (fun _ => (iX11_shut_8 ?_))
    refine iX11_shut_9 (Nat.le_of_ble_eq_true rfl) (M_isMinute (fun a2 b2 => ?_) (fun a2 => ?_))
    · refine iX11_shut_12 (fun h => False.elim (by revert h; decide)) (fun _ => (iX11_shut_15 (iX11_shut_16 (iX11_shut_17 (iX11_shut_18 rfl (Nat.le_of_ble_eq_true rfl) (M_sliceOf r hi ?_))))))
      refine iX11_shut_21 rfl (Nat.le_of_ble_eq_true rfl) (M_hasFallen r (Nat.le_of_lt hs1) (fun q => ?_) (fun q => ?_))
      · refine iX11_shut_24 (fun h => False.elim (by revert h; decide)) (fun _ => ?_)
        exact bad (fun ⟨i', hi', e, _, g⟩ => by rw [inj i' hi' e] at g; exact g q)
      · have ok := ok i hi rfl ⟨a2, b2⟩ q
        have h5 := pow5 hd5
        rw [← shS_ext hd5 sm.1 (32 - 2 ^ d) (by omega), show 2 ^ d + (32 - 2 ^ d) = 32 by omega] at ok
        refine iX11_shut_24 (fun _ => (iX11_shut_34 (iX11_shut_35 rfl (Nat.le_of_ble_eq_true rfl) (M_openSet r sm.1 (iX11_shut_38 rfl (iX11_shut_39 (iX11_shut_40 rfl (iX11_shut_42 (iX11_shut_43 rfl ?_))))))))) (fun h => False.elim (by revert h; decide))
        have key : ∀ j, j ≤ 32 → ∀ x6, V kX11_shut 45 [some (.ref 16), some (.int (nI i)), some (.int t), some (.int (c.1 5)), some (.int (shS c n d k (slo c i) t j)), some (.int (nI j)), x6] [] (mW R T K D s) 0 0 (qI Q) := by
          refine dn 32 ?_
          intro j hj ih x6
          refine iX11_shut_45 (iX11_shut_47 ?_)
          refine iX11_shut_49 (fun q1 => ?_) (fun q1 => ?_)
          · have e := eq_of (k := 32) hj (by omega) q1
            subst e
            refine iX11_shut_124 ?_
            exact iX11_shut_126 ok
          · have hlt := nlt_of (k := 32) (by omega) q1
            have e1 : nI j + 1 = nI (j + 1) := nI_1 j
            have e2 : shS c n d k (slo c i) t (j + 1) = if shA (c.1 5) j ∧ shB (shS c n d k (slo c i) t j) j ∧ shC c n d k (slo c i) t j then nI j else shS c n d k (slo c i) t j := rfl
            have stay : shS c n d k (slo c i) t (j + 1) = shS c n d k (slo c i) t j → ∀ x6, V kX11_shut 118 [some (.ref 16), some (.int (nI i)), some (.int t), some (.int (c.1 5)), some (.int (shS c n d k (slo c i) t j)), some (.int (nI j)), x6] [] (mW R T K D s) 0 0 (qI Q) := by
              intro he x6
              have ih := ih hlt x6
              rw [he] at ih
              refine iX11_shut_118 rfl (iX11_shut_121 ?_)
              rw [e1]
              exact ih
            have move : shS c n d k (slo c i) t (j + 1) = nI j → ∀ x6, V kX11_shut 109 [some (.ref 16), some (.int (nI i)), some (.int t), some (.int (c.1 5)), some (.int (shS c n d k (slo c i) t j)), some (.int (nI j)), x6] [] (mW R T K D s) 0 0 (qI Q) := by
              intro he x6
              have ih := ih hlt x6
              rw [he] at ih
              refine iX11_shut_109 (iX11_shut_111 (iX11_shut_116 rfl (iX11_shut_118 rfl (iX11_shut_121 ?_))))
              rw [e1]
              exact ih
            refine iX11_shut_52 (iX11_shut_54 (iX11_shut_55 (iX11_shut_56 (iX11_shut_57 ?_))))
            refine iX11_shut_58 (fun g1 => ?_) (fun g1 => ?_)
            · exact stay (e2.trans (if_neg (fun z => g1 z.1))) _
            · have main : shB (shS c n d k (slo c i) t j) j → V kX11_shut 80 [some (.ref 16), some (.int (nI i)), some (.int t), some (.int (c.1 5)), some (.int (shS c n d k (slo c i) t j)), some (.int (nI j)), x6] [] (mW R T K D s) 0 0 (qI Q) := by
                intro hB
                refine iX11_shut_80 (iX11_shut_81 (iX11_shut_82 (iX11_shut_83 rfl (Nat.le_of_ble_eq_true rfl) (M_sliceOf r hi (iX11_shut_86 (iX11_shut_87 (iX11_shut_89 (iX11_shut_90 (iX11_shut_91 (iX11_shut_92 rfl (Nat.le_of_ble_eq_true rfl) (M_fallsBy r sm (Nat.le_of_lt hs1) (iX11_shut_95 rfl (iX11_shut_97 (iX11_shut_99 ?_))))))))))))))
                refine iX11_shut_100 (fun g3 => ?_) (fun g3 => ?_)
                · exact move (e2.trans (if_pos ⟨g1, hB, Or.inl g3⟩)) _
                · refine iX11_shut_103 (iX11_shut_105 ?_)
                  refine iX11_shut_106 (fun g4 => ?_) (fun g4 => ?_)
                  · refine iX11_shut_114 (iX11_shut_116 rfl ?_)
                    exact stay (e2.trans (if_neg (fun z => z.2.2.elim g3 (fun q => i32_len q g4)))) _
                  · exact move (e2.trans (if_pos ⟨g1, hB, Or.inr (i32_nlt g4)⟩)) _
              refine iX11_shut_61 (iX11_shut_63 ?_)
              refine iX11_shut_64 (fun g2 => ?_) (fun g2 => ?_)
              · exact main (Or.inl g2)
              · rcases shS_or c n d k (slo c i) t j with h | ⟨m, hm, em⟩
                · exact absurd h g2
                · refine iX11_shut_67 (iX11_shut_69 (Nat.le_of_ble_eq_true rfl) (M_bits (i := j) (by omega) rfl (iX11_shut_72 (iX11_shut_74 (Nat.le_of_ble_eq_true rfl) (M_bits (by omega) em ?_)))))
                  refine iX11_shut_77 (fun g4 => ?_) (fun g4 => ?_)
                  · exact stay (e2.trans (if_neg (fun z => z.2.1.elim g2 (fun q => i32_len g4 q)))) _
                  · exact main (Or.inr (i32_nle g4))
        exact key 0 (by omega) none
    · refine iX11_shut_12 (fun _ => ?_) (fun h => False.elim (by revert h; decide))
      exact bad (fun ⟨i', hi', e, g, _⟩ => a2 g)
  · refine iX11_shut_5 (fun _ => ?_) (fun h => False.elim (by revert h; decide))
    refine bad (fun ⟨i', hi', e, _, _⟩ => a ?_)
    subst e
    obtain ⟨q, hq⟩ : ∃ q, p = q + 1 := ⟨p - 1, by omega⟩
    rw [hq, nI_pred]
    exact ⟨nI_pos' (by omega), nI_le (by omega) (by omega)⟩
theorem M_leanedBy (r : Rl c R n d p u k) (sm : Sm c n d) (h1 : tld c n d k p w → Q 1 (mW R T K D s)) (h0 : ¬ tld c n d k p w → Q 0 (mW R T K D s)) : CallI kX11_leanedBy [.ref 16, .int w] (mW R T K D s) Q := by
  refine e_X11_leanedBy ?_
  have hp9 := r.ok.2.2.1.1.2
  refine iX11_leanedBy_0 (iX11_leanedBy_1 rfl (iX11_leanedBy_2 (iX11_leanedBy_3 rfl ?_)))
  have key : ∀ j, j ≤ p → (∀ i, i < j → tldI c n d k w i) → ∀ x4, V kX11_leanedBy 4 [some (.ref 16), some (.int w), some (.int 1), some (.int (nI j)), x4] [] (mW R T K D s) 0 0 (qI Q) := by
    refine dn p ?_
    intro j hj ih hall x4
    refine iX11_leanedBy_4 (iX11_leanedBy_5 (fun h => False.elim (by revert h; decide)) (fun _ => (iX11_leanedBy_8 (iX11_leanedBy_9 (iX11_leanedBy_10 rfl rfl (iX11_leanedBy_13 (iX11_leanedBy_15 (j := 35) rfl rfl (by decide) (by decide) ?_)))))))
    rw [r.e35, r.ok.2.2.1.1.1]
    refine iX11_leanedBy_16 (fun q => ?_) (fun q => ?_)
    · have e := eq_of hj (by omega) q
      subst e
      refine iX11_leanedBy_67 ?_
      exact iX11_leanedBy_68 rfl (h1 hall)
    · have hlt := nlt_of (by omega) q
      have e1 : nI j + 1 = nI (j + 1) := nI_1 j
      have hs1 := (r.ok.2.2.1.at r.ok.2.1.1.2 hlt).1
      have yes : tldI c n d k w j → ∀ x4, V kX11_leanedBy 4 [some (.ref 16), some (.int w), some (.int 1), some (.int (nI (j + 1))), x4] [] (mW R T K D s) 0 0 (qI Q) := by
        intro hj2
        refine ih hlt (fun i hi => ?_)
        rcases Nat.lt_or_ge i j with a | a
        · exact hall i a
        · have : i = j := by omega
          subst this
          exact hj2
      refine iX11_leanedBy_19 (iX11_leanedBy_20 rfl rfl (iX11_leanedBy_23 (iX11_leanedBy_25 (iX11_leanedBy_26 (iX11_leanedBy_27 (iX11_leanedBy_28 (iX11_leanedBy_29 (iX11_leanedBy_30 (iX11_leanedBy_31 rfl (ix3 36 3 j 2) (by omega) (by decide) ?_)))))))))
      rw [r.p2 j hlt]
      refine iX11_leanedBy_32 rfl (iX11_leanedBy_34 (iX11_leanedBy_36 ?_))
      refine iX11_leanedBy_37 (fun q2 => ?_) (fun q2 => ?_)
      · refine iX11_leanedBy_55 (iX11_leanedBy_56 (iX11_leanedBy_60 rfl (iX11_leanedBy_61 rfl (iX11_leanedBy_64 ?_))))
        rw [e1]
        exact yes (Or.inl q2) _
      · refine iX11_leanedBy_40 (iX11_leanedBy_41 (iX11_leanedBy_42 (iX11_leanedBy_43 rfl (Nat.le_of_ble_eq_true rfl) (M_sliceOf r hlt (iX11_leanedBy_46 (iX11_leanedBy_47 rfl (Nat.le_of_ble_eq_true rfl) (M_fallsBy r sm (Nat.le_of_lt hs1) (iX11_leanedBy_50 ?_))))))))
        refine iX11_leanedBy_52 (fun q3 => ?_) (fun q3 => ?_)
        · refine iX11_leanedBy_59 (iX11_leanedBy_60 rfl (iX11_leanedBy_61 rfl (iX11_leanedBy_64 (iX11_leanedBy_4 (iX11_leanedBy_5 (fun _ => (iX11_leanedBy_67 ?_)) (fun h => False.elim (by revert h; decide)))))))
          exact iX11_leanedBy_68 rfl (h0 (fun z => (z j hlt).elim q2 q3))
        · refine iX11_leanedBy_55 (iX11_leanedBy_56 (iX11_leanedBy_60 rfl (iX11_leanedBy_61 rfl (iX11_leanedBy_64 ?_))))
          rw [e1]
          exact yes (Or.inr q3) _
  exact key 0 (Nat.zero_le _) (fun i hi => absurd hi (by omega)) none
theorem lnS_CF (c : Ch) (n d k p : Nat) : ∀ i, i < 1000000 → CF (lnS c n d k p i).1 (lnS c n d k p i).2 i
  | 0, _ => CF.zero
  | i + 1, h => by
    by_cases g : tld c n d k p (nI i)
    · rw [lnS_y g]
      exact (lnS_CF c n d k p i (by omega)).step (nI_nm1 (by omega))
    · rw [lnS_n g]
      exact (lnS_CF c n d k p i (by omega)).stay
theorem N_leaned (r : Rl c R n d p u k) (sm : Sm c n d) (hb : ¬ (0 ≤ x ∧ x ≤ 1) → Q (-10) (mW R T K D (bump s 1))) (ok : 0 ≤ x → x ≤ 1 → Q (if x = 0 then (lnS c n d k p (2 ^ d)).1 else (lnS c n d k p (2 ^ d)).2) (mW R T K D s)) : CallI kX11_leaned [.ref 16, .int x] (mW R T K D s) Q := by
  refine e_X11_leaned ?_
  have hd5 := r.ok.2.1.2.1.2
  have h5 := pow5 hd5
  refine iX11_leaned_0 (iX11_leaned_1 (iX11_leaned_2 (iX11_leaned_3 ?_)))
  refine iX11_leaned_4 (Nat.le_of_ble_eq_true rfl) (S_in (lo := 0) (hi := 1) rfl rfl (fun a b => ?_) (fun a => ?_))
  · have ok := ok a b
    refine iX11_leaned_7 (fun _ => (iX11_leaned_17 (iX11_leaned_18 rfl (iX11_leaned_19 (iX11_leaned_20 rfl (iX11_leaned_21 (iX11_leaned_22 rfl ?_))))))) (fun h => False.elim (by revert h; decide))
    have key : ∀ j, j ≤ 2 ^ d → ∀ x5, V kX11_leaned 24 [some (.ref 16), some (.int x), some (.int (lnS c n d k p j).1), some (.int (lnS c n d k p j).2), some (.int (nI j)), x5] [] (mW R T K D s) 0 0 (qI Q) := by
      refine dn (2 ^ d) ?_
      intro j hj ih x5
      refine iX11_leaned_24 (iX11_leaned_26 (iX11_leaned_27 (iX11_leaned_28 rfl rfl (iX11_leaned_31 (iX11_leaned_33 (j := 24) rfl rfl (by decide) (by decide) ?_)))))
      rw [r.e24, r.ok.2.1.2.1.1]
      refine iX11_leaned_34 ?_
      rw [sh1 hd5]
      refine iX11_leaned_35 (fun q => ?_) (fun q => ?_)
      · have e := eq_of hj (by omega) q
        rw [e]
        refine iX11_leaned_81 ?_
        refine iX11_leaned_82 (fun q2 => ?_) (fun q2 => ?_)
        · rw [if_neg q2] at ok
          refine iX11_leaned_89 ?_
          exact iX11_leaned_90 ok
        · rw [if_pos q2] at ok
          refine iX11_leaned_85 (iX11_leaned_86 ?_)
          exact iX11_leaned_90 ok
      · have hlt := nlt_of (by omega) q
        have e1 : nI j + 1 = nI (j + 1) := nI_1 j
        have cf := (lnS_CF c n d k p j (by omega)).iff (by omega)
        refine iX11_leaned_38 (iX11_leaned_39 (iX11_leaned_41 rfl (Nat.le_of_ble_eq_true rfl) (M_leanedBy r sm (fun g => ?_) (fun g => ?_))))
        · have ih := ih hlt (some (.int 1))
          rw [lnS_y g] at ih
          refine iX11_leaned_44 rfl (iX11_leaned_46 (iX11_leaned_48 (fun h => False.elim (by revert h; decide)) (fun _ => (iX11_leaned_51 ?_))))
          refine iX11_leaned_52 (fun q2 => ?_) (fun q2 => ?_)
          · rw [if_neg (fun z => q2 (cf.mpr z))] at ih
            refine iX11_leaned_60 (iX11_leaned_61 rfl (iX11_leaned_62 (iX11_leaned_63 (iX11_leaned_65 (fun h => False.elim (by revert h; decide)) (fun _ => (iX11_leaned_68 (iX11_leaned_69 (iX11_leaned_73 (iX11_leaned_74 rfl (iX11_leaned_75 rfl (iX11_leaned_78 ?_)))))))))))
            rw [e1]
            exact ih
          · rw [if_pos (cf.mp q2)] at ih
            refine iX11_leaned_55 (iX11_leaned_57 (iX11_leaned_61 rfl (iX11_leaned_62 (iX11_leaned_63 (iX11_leaned_65 (fun h => False.elim (by revert h; decide)) (fun _ => (iX11_leaned_68 (iX11_leaned_69 (iX11_leaned_73 (iX11_leaned_74 rfl (iX11_leaned_75 rfl (iX11_leaned_78 ?_))))))))))))
            rw [e1]
            exact ih
        · have ih := ih hlt (some (.int 0))
          rw [lnS_n g] at ih
          refine iX11_leaned_44 rfl (iX11_leaned_46 (iX11_leaned_48 (fun _ => (iX11_leaned_60 (iX11_leaned_61 rfl (iX11_leaned_62 (iX11_leaned_63 (iX11_leaned_65 (fun _ => (iX11_leaned_72 ?_)) (fun h => False.elim (by revert h; decide)))))))) (fun h => False.elim (by revert h; decide))))
          refine iX11_leaned_73 ?_
          rw [Int32.add_zero]
          refine iX11_leaned_74 rfl (iX11_leaned_75 rfl (iX11_leaned_78 ?_))
          rw [e1]
          exact ih
    exact key 0 (Nat.zero_le _) none
  · refine iX11_leaned_7 (fun h => False.elim (by revert h; decide)) (fun _ => (iX11_leaned_10 (iX11_leaned_11 (iX11_leaned_13 rfl (Nat.le_of_ble_eq_true rfl) (M_isBad ?_)))))
    exact iX11_leaned_16 (hb a)
end Ask3
