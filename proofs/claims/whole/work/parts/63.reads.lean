section MReads
variable {R T K D s : Nat → Int32} {l s0 e rm k : Nat} {Q : Int32 → Wd → Prop}
theorem M_reads (hl : s 0 = nI l) (hl2 : l ≤ 150) (ha : s 5 = nI e) (hp : s 6 = nI s0) (he : s 7 = nI e) (hr : s 8 = nI rm) (hse : s0 ≤ e) (hel : e ≤ l) (hk : 5 * rm + 1 + k < 150) (h1 : s0 < l → isF T s0 = true → e - s0 ≤ 2 → Q 1 (mW R T K (upd D (5 * rm + 1 + k) (nvS T s0 (e - s0))) (tkM s (nI (tE T l (tS T l e))) (nI (tS T l e)) (nI (tE T l (tS T l e)))))) (h0 : ¬ (s0 < l ∧ isF T s0 = true ∧ e - s0 ≤ 2) → Q 0 (mW R T K D s)) : CallI kX11_reads [.ref 16, .int (nI k)] (mW R T K D s) Q := by
  refine e_X11_reads ?_
  have no : ¬ (s0 < l ∧ isF T s0 = true ∧ e - s0 ≤ 2) → V kX11_reads 40 [some (.ref 16), some (.int (nI k)), none, none] [] (mW R T K D s) 0 0 (qI Q) := by
    intro q
    refine iX11_reads_40 ?_
    exact iX11_reads_41 rfl (h0 q)
  refine iX11_reads_0 (iX11_reads_1 rfl rfl (iX11_reads_4 (iX11_reads_5 rfl rfl ?_)))
  rw [hl, hp]
  refine iX11_reads_8 (fun g => ?_) (fun g => ?_)
  · have : s0 = l := (nI_eq (by omega) (by omega)).mp g
    exact no (fun z => by omega)
  · have hlt : s0 < l := by
      rcases Nat.lt_or_ge s0 l with a | a
      · exact a
      · exact absurd (by rw [show s0 = l by omega]) g
    refine iX11_reads_11 (iX11_reads_12 rfl rfl (iX11_reads_15 (iX11_reads_16 rfl rfl (iX11_reads_19 rfl hp (by omega) (by decide) (iX11_reads_20 (Nat.le_of_ble_eq_true rfl) (M_sort (iX11_reads_23 ?_)))))))
    refine iX11_reads_24 (fun g2 => ?_) (fun g2 => ?_)
    · exact no (fun z => g2 (srt2.mpr z.2.1))
    · have hF := srt2.mp g2
      refine iX11_reads_27 (iX11_reads_28 rfl rfl (iX11_reads_31 (iX11_reads_32 rfl rfl ?_)))
      rw [hp, he]
      refine iX11_reads_35 ?_
      rw [nI_sub hse]
      refine iX11_reads_36 ?_
      refine iX11_reads_37 (fun g3 => ?_) (fun g3 => ?_)
      · have h2 : e - s0 ≤ 2 := (nI_leI (b := 2) (by omega) (by omega)).mp g3
        have fin := h1 hlt hF h2
        refine iX11_reads_42 (iX11_reads_43 rfl (iX11_reads_44 (iX11_reads_45 rfl rfl ?_)))
        rw [hp]
        refine iX11_reads_48 rfl ?_
        have key : ∀ j, j ≤ e - s0 → V kX11_reads 49 [some (.ref 16), some (.int (nI k)), some (.int (nvS T s0 j)), some (.int (nI (s0 + j)))] [] (mW R T K D s) 0 0 (qI Q) := by
          refine dn (e - s0) ?_
          intro j hj ih
          refine iX11_reads_49 (iX11_reads_50 (iX11_reads_51 rfl rfl ?_))
          rw [he]
          refine iX11_reads_54 (fun g4 => ?_) (fun g4 => ?_)
          · have ej : j = e - s0 := by
              have := (nI_leI (by omega) (by omega)).mp g4
              omega
            subst ej
            refine iX11_reads_78 (iX11_reads_79 rfl rfl (iX11_reads_82 (iX11_reads_83 (iX11_reads_84 rfl rfl ?_))))
            rw [hr]
            refine iX11_reads_87 (iX11_reads_88 (iX11_reads_89 (iX11_reads_90 (iX11_reads_91 (iX11_reads_92 (iX11_reads_93 rfl (show (5 : Int32) * nI rm + 1 + nI k = nI (5 * rm + 1 + k) by rw [show (5 : Int32) = nI 5 from rfl, nI_mul, nI_1, nI_add]) (by omega) (by decide) ?_))))))
            change V kX11_reads 94 _ _ (mW R T K (upd D (5 * rm + 1 + k) (nvS T s0 (e - s0))) s) 0 0 _
            refine iX11_reads_94 (iX11_reads_95 rfl (Nat.le_of_ble_eq_true rfl) (M_token hl hl2 ha hel (iX11_reads_98 ?_)))
            exact iX11_reads_99 rfl fin
          · have hjl : j < e - s0 := by
              rcases Nat.lt_or_ge j (e - s0) with a | a
              · exact a
              · exact absurd (nI_le (by omega) (by omega)) g4
            have ih := ih hjl
            have e1 : nI (s0 + j) + 1 = nI (s0 + (j + 1)) := nI_1 (s0 + j)
            have e2 : nvS T s0 (j + 1) = 10 * nvS T s0 j + T (s0 + j) - 48 := by
              show (if j < 2 then 10 * nvS T s0 j + T (s0 + j) - 48 else nvS T s0 j) = _
              rw [if_pos (by omega)]
            rw [e2] at ih
            refine iX11_reads_57 (iX11_reads_59 (iX11_reads_60 (iX11_reads_61 (iX11_reads_62 rfl rfl (iX11_reads_65 (iX11_reads_66 (j := s0 + j) rfl rfl (by omega) (by decide) (iX11_reads_67 (iX11_reads_68 (iX11_reads_70 (iX11_reads_71 rfl (iX11_reads_72 rfl (iX11_reads_75 ?_))))))))))))
            rw [e1]
            exact ih
        exact key 0 (Nat.zero_le _)
      · have h2 : ¬ e - s0 ≤ 2 := fun z => g3 (nI_le (b := 2) z (by omega))
        exact no (fun z => h2 z.2.2)
end MReads
