section Calls4
variable {C : Nat → Ch} {F : Nat → Nat → Int32} {n d p u k l : Nat} {x y z t : Int32} {Q : Int32 → Wd → Prop}
theorem hW_L20 (c : Ch) : hW (va_up (va_up C 2 c) 0 (C 0)) F = hW (va_up C 2 c) F := hW_of (fun i hi => by
  match i, hi with
  | 0, _ => rfl
  | 1, _ => rfl
  | 2, _ => rfl
  | 3, _ => rfl
  | i + 4, hi => exact absurd hi (by omega))
theorem hW_L30 (c : Ch) : hW (va_up (va_up C 3 c) 0 (C 0)) F = hW (va_up C 3 c) F := hW_of (fun i hi => by
  match i, hi with
  | 0, _ => rfl
  | 1, _ => rfl
  | 2, _ => rfl
  | 3, _ => rfl
  | i + 4, hi => exact absurd hi (by omega))
theorem hW_L02 (c : Ch) : hW (va_up (va_up C 0 c) 2 (C 2)) F = hW (va_up C 0 c) F := hW_of (fun i hi => by
  match i, hi with
  | 0, _ => rfl
  | 1, _ => rfl
  | 2, _ => rfl
  | 3, _ => rfl
  | i + 4, hi => exact absurd hi (by omega))
theorem hW_L03 (c : Ch) : hW (va_up (va_up C 0 c) 3 (C 3)) F = hW (va_up C 0 c) F := hW_of (fun i hi => by
  match i, hi with
  | 0, _ => rfl
  | 1, _ => rfl
  | 2, _ => rfl
  | 3, _ => rfl
  | i + 4, hi => exact absurd hi (by omega))
theorem H_image (hb : ¬ (0 ≤ x ∧ x ≤ 1) → Q (-2) (hW C (badF F))) (ok : ∀ m, m < 2 → x = nI m → Q 1 (hW (va_up C (m + 2) (lik (C (m + 2)) (C 0))) (va_up F 0 (upd (F 0) m 1)))) : CallI kX10_image [.ref 16, .int x] (hW C F) Q := by
  refine e_X10_image ?_
  refine iX10_image_0 (iX10_image_1 (iX10_image_2 ?_))
  refine iX10_image_3 (Nat.le_of_ble_eq_true rfl) (S_within (fun a b => ?_) (fun a => ?_))
  · obtain ⟨m, hm, e⟩ := nI_of2 (M := 1) (n := 1) (by decide) (i32_len a) b
    have fin := ok m (by omega) e
    subst e
    have hm2 : m = 0 ∨ m = 1 := by omega
    rcases hm2 with e | e
    · subst e
      refine iX10_image_6 (fun _ => (iX10_image_16 (iX10_image_17 rfl rfl (iX10_image_20 (iX10_image_21 (j := 0) rfl rfl (by decide) (by decide) rfl (iX10_image_22 (iX10_image_23 rfl rfl ?_))))))) (fun h => False.elim (by revert h; decide))
      refine iX10_image_26F (a0 := .ref 17) plL20 (chW2 (C 2) (C 0)) [.ref 16, .ref 36] (pt_plL20 C F) (by decide) rfl rfl (Nat.le_of_ble_eq_true rfl) (S_cLike ?_)
      change V kX10_image 29 _ _ (wr (rn plL20 92) _ plL20 _) 0 0 _
      rw [wr_plL20, hW_L20]
      refine iX10_image_29 (iX10_image_30 rfl rfl (iX10_image_33 (iX10_image_34 (iX10_image_35z (j := 0) rfl rfl (by decide) (by decide) (iX10_image_36 ?_)))))
      exact iX10_image_37 fin
    · subst e
      refine iX10_image_6 (fun _ => (iX10_image_16 (iX10_image_17 rfl rfl (iX10_image_20 (iX10_image_21 (j := 1) rfl rfl (by decide) (by decide) rfl (iX10_image_22 (iX10_image_23 rfl rfl ?_))))))) (fun h => False.elim (by revert h; decide))
      refine iX10_image_26F (a0 := .ref 17) plL30 (chW2 (C 3) (C 0)) [.ref 16, .ref 36] (pt_plL30 C F) (by decide) rfl rfl (Nat.le_of_ble_eq_true rfl) (S_cLike ?_)
      change V kX10_image 29 _ _ (wr (rn plL30 92) _ plL30 _) 0 0 _
      rw [wr_plL30, hW_L30]
      refine iX10_image_29 (iX10_image_30 rfl rfl (iX10_image_33 (iX10_image_34 (iX10_image_35z (j := 1) rfl rfl (by decide) (by decide) (iX10_image_36 ?_)))))
      exact iX10_image_37 fin
  · refine iX10_image_6 (fun h => False.elim (by revert h; decide)) (fun _ => (iX10_image_9 (iX10_image_10 (iX10_image_12 rfl (Nat.le_of_ble_eq_true rfl) (S_counted ?_)))))
    exact iX10_image_15 (hb a)
theorem H_from (hb : ¬ (0 ≤ x ∧ x ≤ 1) → Q (-2) (hW C (badF F))) (hn : ∀ m, m < 2 → x = nI m → F 0 m = 0 → Q (-3) (hW C (va_up F 8 (cntd (F 8) (-3))))) (ok : ∀ m, m < 2 → x = nI m → ¬ F 0 m = 0 → Q 1 (hW (va_up C 0 (lik (C 0) (C (m + 2)))) F)) : CallI kX10_from [.ref 16, .int x] (hW C F) Q := by
  refine e_X10_from ?_
  refine iX10_from_0 (iX10_from_1 (iX10_from_2 ?_))
  refine iX10_from_3 (Nat.le_of_ble_eq_true rfl) (S_within (fun a b => ?_) (fun a => ?_))
  · obtain ⟨m, hm, e⟩ := nI_of2 (M := 1) (n := 1) (by decide) (i32_len a) b
    have f0 := hn m (by omega) e
    have f1 := ok m (by omega) e
    subst e
    have hm2 : m = 0 ∨ m = 1 := by omega
    rcases hm2 with e | e
    · subst e
      refine iX10_from_6 (fun _ => (iX10_from_16 (iX10_from_17 rfl rfl (iX10_from_20 (iX10_from_21z (j := 0) rfl rfl (by decide) (by decide) ?_))))) (fun h => False.elim (by revert h; decide))
      refine iX10_from_22 (fun g => ?_) (fun g => ?_)
      · refine iX10_from_32 (iX10_from_33 rfl rfl (iX10_from_36 (iX10_from_37 rfl rfl (iX10_from_40 (iX10_from_41 (j := 0) rfl rfl (by decide) (by decide) rfl ?_)))))
        refine iX10_from_42F (a0 := .ref 58) plL02 (chW2 (C 0) (C 2)) [.ref 16, .ref 36] (pt_plL02 C F) (by decide) rfl rfl (Nat.le_of_ble_eq_true rfl) (S_cLike ?_)
        change V kX10_from 45 _ _ (wr (rn plL02 92) _ plL02 _) 0 0 _
        rw [wr_plL02, hW_L02]
        refine iX10_from_45 ?_
        exact iX10_from_46 (f1 g)
      · refine iX10_from_25 (iX10_from_26 (iX10_from_28 rfl (Nat.le_of_ble_eq_true rfl) (S_counted ?_)))
        exact iX10_from_31 (f0 g)
    · subst e
      refine iX10_from_6 (fun _ => (iX10_from_16 (iX10_from_17 rfl rfl (iX10_from_20 (iX10_from_21z (j := 1) rfl rfl (by decide) (by decide) ?_))))) (fun h => False.elim (by revert h; decide))
      refine iX10_from_22 (fun g => ?_) (fun g => ?_)
      · refine iX10_from_32 (iX10_from_33 rfl rfl (iX10_from_36 (iX10_from_37 rfl rfl (iX10_from_40 (iX10_from_41 (j := 1) rfl rfl (by decide) (by decide) rfl ?_)))))
        refine iX10_from_42F (a0 := .ref 78) plL03 (chW2 (C 0) (C 3)) [.ref 16, .ref 36] (pt_plL03 C F) (by decide) rfl rfl (Nat.le_of_ble_eq_true rfl) (S_cLike ?_)
        change V kX10_from 45 _ _ (wr (rn plL03 92) _ plL03 _) 0 0 _
        rw [wr_plL03, hW_L03]
        refine iX10_from_45 ?_
        exact iX10_from_46 (f1 g)
      · refine iX10_from_25 (iX10_from_26 (iX10_from_28 rfl (Nat.le_of_ble_eq_true rfl) (S_counted ?_)))
        exact iX10_from_31 (f0 g)
  · refine iX10_from_6 (fun h => False.elim (by revert h; decide)) (fun _ => (iX10_from_9 (iX10_from_10 (iX10_from_12 rfl (Nat.le_of_ble_eq_true rfl) (S_counted ?_)))))
    exact iX10_from_15 (hb a)
theorem H_status (hb : ¬ (0 ≤ x ∧ x ≤ 2) → Q (-1) (hW C (badF F))) (ok : ∀ m, m < 3 → x = nI m → Q (F 8 m) (hW C F)) : CallI kX10_status [.ref 16, .int x] (hW C F) Q := by
  refine e_X10_status ?_
  refine iX10_status_0 (iX10_status_1 (iX10_status_2 ?_))
  refine iX10_status_3 (Nat.le_of_ble_eq_true rfl) (S_within (fun a b => ?_) (fun a => ?_))
  · obtain ⟨m, hm, e⟩ := nI_of2 (M := 2) (n := 2) (by decide) (i32_len a) b
    have fin := ok m (by omega) e
    subst e
    refine iX10_status_6 (fun _ => (iX10_status_18 (iX10_status_19 rfl rfl (iX10_status_22 (iX10_status_23 (j := m) rfl rfl (by omega) (by decide) ?_))))) (fun h => False.elim (by revert h; decide))
    exact iX10_status_24 fin
  · refine iX10_status_6 (fun h => False.elim (by revert h; decide)) (fun _ => (iX10_status_9 (iX10_status_10 (iX10_status_12 rfl (Nat.le_of_ble_eq_true rfl) (S_counted (iX10_status_15 rfl (iX10_status_16 ?_)))))))
    exact iX10_status_17 (hb a)
theorem S_numberOf {m : Nat} (hn : (C 0).1 0 = nI n) (hn2 : n ≤ 20) (hm : m ≤ 9) (h : Q (numO (C 0) F n m) (hW C F)) : CallI kX10_numberOf [.ref 16, .int (nI m)] (hW C F) Q := by
  refine e_X10_numberOf ?_
  refine iX10_numberOf_0 ?_
  match m, hm, h with
  | 0, _, h =>
    refine iX10_numberOf_1_0 ?_
    refine iX10_numberOf_52 (iX10_numberOf_53 rfl rfl (iX10_numberOf_56 rfl rfl ?_))
    exact iX10_numberOf_59 h
  | 1, _, h =>
    refine iX10_numberOf_1_1 ?_
    refine iX10_numberOf_60 (iX10_numberOf_61 rfl rfl (iX10_numberOf_64 rfl rfl ?_))
    exact iX10_numberOf_67 h
  | 2, _, h =>
    refine iX10_numberOf_1_2 ?_
    refine iX10_numberOf_68 (iX10_numberOf_69 rfl rfl ?_)
    refine iX10_numberOf_72P plMC (chW (C 0)) [.ref 16] (pt_plMC C F) (by decide) rfl rfl (Nat.le_of_ble_eq_true rfl) (S_allWax hn hn2 ⟨rfl, ?_⟩)
    exact iX10_numberOf_75 h
  | 3, _, h =>
    refine iX10_numberOf_1_3 ?_
    refine iX10_numberOf_76 (iX10_numberOf_77 rfl rfl (iX10_numberOf_80 rfl rfl ?_))
    exact iX10_numberOf_83 h
  | 4, _, h =>
    refine iX10_numberOf_1_4 ?_
    refine iX10_numberOf_84 (iX10_numberOf_85 rfl rfl (iX10_numberOf_88 rfl rfl ?_))
    exact iX10_numberOf_91 h
  | 5, _, h =>
    refine iX10_numberOf_1_5 ?_
    refine iX10_numberOf_92 (iX10_numberOf_93 rfl rfl (iX10_numberOf_96 rfl rfl ?_))
    exact iX10_numberOf_99 h
  | 6, _, h =>
    refine iX10_numberOf_1_6 ?_
    refine iX10_numberOf_100 (iX10_numberOf_101 rfl rfl (iX10_numberOf_104 rfl rfl (iX10_numberOf_107 rfl rfl ?_)))
    exact iX10_numberOf_110 h
  | 7, _, h =>
    refine iX10_numberOf_1_7 ?_
    refine iX10_numberOf_111 (iX10_numberOf_112 rfl rfl (iX10_numberOf_115 rfl rfl ?_))
    exact iX10_numberOf_118 h
  | 8, _, h =>
    refine iX10_numberOf_1_8 ?_
    refine iX10_numberOf_119 (iX10_numberOf_120 rfl rfl (iX10_numberOf_123 rfl rfl ?_))
    exact iX10_numberOf_126 h
  | 9, _, h =>
    refine iX10_numberOf_1_d (by decide) ?_
    refine iX10_numberOf_127 (iX10_numberOf_128 rfl rfl (iX10_numberOf_131 rfl rfl ?_))
    exact iX10_numberOf_134 h
  | m + 10, hm, _ => exact absurd hm (by omega)
theorem H_count (hc : COk (C 0) n d p u k) (hb : ¬ (0 ≤ x ∧ x ≤ 9) → Q (-2) (hW C (badF F))) (ok : ∀ m, m ≤ 9 → x = nI m → Q (numO (C 0) F n m) (hW C F)) : CallI kX10_count [.ref 16, .int x] (hW C F) Q := by
  refine e_X10_count ?_
  refine iX10_count_0 (iX10_count_1 (iX10_count_2 ?_))
  refine iX10_count_4 (Nat.le_of_ble_eq_true rfl) (S_within (fun a b => ?_) (fun a => ?_))
  · obtain ⟨m, hm, e⟩ := nI_of2 (M := 9) (n := 9) (by decide) (i32_len a) b
    have fin := ok m hm e
    subst e
    refine iX10_count_7 (fun h => False.elim (by revert h; decide)) (fun _ => (iX10_count_10 (iX10_count_11 (iX10_count_12 rfl (Nat.le_of_ble_eq_true rfl) (S_numberOf hc.2.1.1.1 hc.2.1.1.2 hm (iX10_count_15 ?_))))))
    exact iX10_count_24 fin
  · refine iX10_count_7 (fun _ => (iX10_count_18 (iX10_count_19 (iX10_count_21 rfl (Nat.le_of_ble_eq_true rfl) (S_counted ?_))))) (fun h => False.elim (by revert h; decide))
    exact iX10_count_24 (hb a)
theorem H_digest {R : Int64 → Wd → Prop} (hc : COk (C 0) n d p u k) (ok : R (bDig (C 0).2 (cDig (C 0) n d p (dgN (C 0) F n 10)) k) (hW C F)) : CallL kX10_digest [.ref 16] (hW C F) R := by
  refine e_X10_digest ?_
  refine iX10_digest_0 (iX10_digest_3 rfl (iX10_digest_4 (iX10_digest_5 rfl ?_)))
  have key : ∀ i, i ≤ 10 → V kX10_digest 6 [some (.ref 16), some (.long (dgN (C 0) F n i)), none, some (.int (nI i))] [] (hW C F) 0 0 (qL R) := by
    refine dn 10 ?_
    intro i hi ih
    refine iX10_digest_6 (iX10_digest_7 ?_)
    refine iX10_digest_9 (fun g => ?_) (fun g => ?_)
    · have e := eq_of hi (by omega) g
      subst e
      refine iX10_digest_31 (iX10_digest_32 rfl rfl (iX10_digest_35 rfl rfl (iX10_digest_38 (iX10_digest_39 rfl rfl (iX10_digest_42 ?_)))))
      refine iX10_digest_43P plMC (chW (C 0)) [.ref 16, .long (dgN (C 0) F n 10)] (pt_plMC C F) (by decide) rfl rfl (Nat.le_of_ble_eq_true rfl) (S_cDigest hc.2.1.1.1 hc.2.1.1.2 hc.2.1.2.1.1 hc.2.1.2.1.2 hc.2.2.1.1.1 hc.2.2.1.1.2 ⟨rfl, ?_⟩)
      refine iX10_digest_46P plMB (bnW ((C 0).1 8) (C 0).2) [.ref 16, .long (cDig (C 0) n d p (dgN (C 0) F n 10))] (pt_plMB C F) (by decide) rfl rfl (Nat.le_of_ble_eq_true rfl) (S_bDigest hc.2.1.2.2.2.1 hc.2.1.2.2.1 ⟨rfl, ?_⟩)
      exact iX10_digest_49 ok
    · have hlt : i < 10 := nlt_of (by omega) g
      have e1 : nI i + 1 = nI (i + 1) := nI_1 i
      refine iX10_digest_12 (iX10_digest_15 (iX10_digest_16 (iX10_digest_17 (iX10_digest_18 (iX10_digest_19 rfl (Nat.le_of_ble_eq_true rfl) (S_numberOf hc.2.1.1.1 hc.2.1.1.2 (by omega) (iX10_digest_22 (iX10_digest_23 (iX10_digest_24 rfl (iX10_digest_25 rfl (iX10_digest_28 ?_)))))))))))
      rw [e1]
      exact ih hlt
  exact key 0 (by omega)
end Calls4
