theorem and63 (x : Int32) : ∃ m, m < 64 ∧ x &&& 63 = nI m := by
  refine ⟨(x &&& 63).toBitVec.toNat, ?_, ?_⟩
  · rw [Int32.toBitVec_and, BitVec.toNat_and]
    exact Nat.lt_of_le_of_lt Nat.and_le_right (by decide)
  · apply Int32.toBitVec_inj.mp
    unfold nI
    rw [Int32.toBitVec_ofNat']
    simp
theorem sub6 {L i : Nat} (hL : L ≤ 384) (hi : i ≤ 400) (h : ¬ nI L - 6 < nI i) : i + 6 ≤ L := by
  rcases Nat.lt_or_ge L 6 with a | a
  · have e : nI L - 6 < 0 := (by decide : ∀ L, L < 6 → nI L - 6 < 0) L a
    have p : 0 ≤ nI i := nI_pos' (by omega)
    exact absurd (Int32.lt_of_lt_of_le e p) h
  · have e : nI L - 6 = nI (L - 6) := nI_sub (b := 6) a
    rw [e] at h
    rcases Nat.lt_or_ge (L - 6) i with b | b
    · exact absurd (nI_lt b (by omega)) h
    · omega
section Loop
variable {L : Nat} {xs : Nat → Int32}
theorem Lp (hL : L ≤ 384) : ∀ q, q ≤ 65 → ∀ C F R T K D s, Jn C F R T K s (20 * q) → V (kL_law L xs) 18 (lsL (6 * q)) [] (gW C F R T K D s) 97 1867 qT := by
  refine dn 65 ?_
  intro q hq ih C F R T K D s j
  refine iL_law_18 (iL_law_19 (iL_law_20 (iL_law_21 (iL_law_23 ?_))))
  refine iL_law_24 (fun g => ?_) (fun g => ?_)
  · refine iL_law_1196 ?_
    exact iL_law_1197 rfl l97 l1867 rfl
  · have h6 := sub6 hL (by omega) g
    have ih := ih (by omega)
    have e6 : nI (6 * q) + 6 = nI (6 * (q + 1)) := nI_add (6 * q) 6
    have nx : Nx L xs (6 * q) (20 * q) := by
      intro C F R T K D s j
      refine iL_law_1190 rfl (iL_law_1193 ?_)
      rw [e6]
      exact ih C F R T K D s j
    have hB : 20 * q < 100000 := by omega
    have hi : 6 * q + 5 < L := by omega
    generalize 6 * q = i at *
    generalize 20 * q = B at *
    refine iL_law_27 (iL_law_28 (iL_law_29 rfl (by omega) (by omega) (iL_law_30 ?_)))
    refine iL_law_32 ?_
    obtain ⟨m, hm, em⟩ := and63 (xs i)
    rw [em]
    match m, hm with
    | 0, _ => exact iL_law_33_0 (Lc_candle j hB hi hL nx)
    | 1, _ => exact iL_law_33_1 (Lc_thick j hB hi hL nx)
    | 2, _ => exact iL_law_33_2 (Lc_door j hB hi hL nx)
    | 3, _ => exact iL_law_33_3 (Lc_open j hB hi hL nx)
    | 4, _ => exact iL_law_33_4 (Lc_pin j hB hi hL nx)
    | 5, _ => exact iL_law_33_5 (Lc_member j hB hi hL nx)
    | 6, _ => exact iL_law_33_6 (Lc_drop j hB hi hL nx)
    | 7, _ => exact iL_law_33_7 (Lc_type j hB hi hL nx)
    | 8, _ => exact iL_law_33_8 (Lc_clear j hB hi hL nx)
    | 9, _ => exact iL_law_33_9 (Lc_read j hB hi hL nx)
    | 10, _ => exact iL_law_33_10 (Lc_minute j hB hi hL nx)
    | 11, _ => exact iL_law_33_11 (Lc_undo j hB hi hL nx)
    | 12, _ => exact iL_law_33_12 (Lc_house j hB hi hL nx)
    | 13, _ => exact iL_law_33_13 (Lc_votes j hB hi hL nx)
    | 14, _ => exact iL_law_33_14 (Lc_burns j hB hi hL nx)
    | 15, _ => exact iL_law_33_15 (Lc_fallen j hB hi hL nx)
    | 16, _ => exact iL_law_33_16 (Lc_falls j hB hi hL nx)
    | 17, _ => exact iL_law_33_17 (Lc_out j hB hi hL nx)
    | 18, _ => exact iL_law_33_18 (Lc_whose j hB hi hL nx)
    | 19, _ => exact iL_law_33_19 (Lc_reads j hB hi hL nx)
    | 20, _ => exact iL_law_33_20 (Lc_set j hB hi hL nx)
    | 21, _ => exact iL_law_33_21 (Lc_shut j hB hi hL nx)
    | 22, _ => exact iL_law_33_22 (Lc_lean j hB hi hL nx)
    | 23, _ => exact iL_law_33_23 (Lc_leaned j hB hi hL nx)
    | 24, _ => exact iL_law_33_24 (Lc_quorum j hB hi hL nx)
    | 25, _ => exact iL_law_33_25 (Lc_tallow j hB hi hL nx)
    | 26, _ => exact iL_law_33_26 (Lc_race j hB hi hL nx)
    | 27, _ => exact iL_law_33_27 (Lc_game j hB hi hL nx)
    | 28, _ => exact iL_law_33_28 (Lc_moths j hB hi hL nx)
    | 29, _ => exact iL_law_33_29 (Lc_loan j hB hi hL nx)
    | 30, _ => exact iL_law_33_30 (Lc_image j hB hi hL nx)
    | 31, _ => exact iL_law_33_31 (Lc_from j hB hi hL nx)
    | 32, _ => exact iL_law_33_32 (Lc_status j hB hi hL nx)
    | 33, _ => exact iL_law_33_33 (Lc_count j hB hi hL nx)
    | 34, _ => exact iL_law_33_34 (Lc_digest j hB hi hL nx)
    | m + 35, hm =>
      refine iL_law_33_d (Or.inr ?_) ?_
      · exact (by decide +kernel : ∀ m, m < 29 → (34 : Int) < (nI (m + 35)).toInt) m (by omega)
      · exact nx _ _ _ _ _ _ _ (j.st (by omega))
end Loop
