theorem opS : ∀ w, w < 32 → ∀ i, i < 5 → nI (w % 2 ^ i) ||| ((if bitOn (nI w) i then 1 else 0) <<< (nI i &&& 31)) = nI (w % 2 ^ (i + 1)) := by decide +kernel
/-- numbers that stay small -/
def Sm (c : Ch) (n d : Nat) : Prop := (∃ w, w < 2 ^ d ∧ c.1 5 = nI w) ∧ (∃ t0, t0 < 1000000 ∧ c.1 3 = nI t0) ∧ ¬ l_sum (c.2 0) n < c.1 1
theorem tm_ok {c : Ch} {n d j : Nat} (h : Sm c n d) (hj : j < 1000000) : 0 ≤ c.1 3 + nI j := by
  obtain ⟨t0, h1, h2⟩ := h.2.1
  rw [h2, nI_add]
  exact nI_pos' (by omega)
section Mod3
variable {c : Ch} {R T K D s : Nat → Int32} {n d p u k i : Nat} {x y z t w : Int32} {ws : Wd} {Q : Int32 → Wd → Prop} {g : Nat → Int32}
theorem M_openSet (r : Rl c R n d p u k) (hm : ∃ w, w < 2 ^ d ∧ c.1 5 = nI w) (h : Q (c.1 5) (mW R T K D s)) : CallI kX11_openSet [.ref 16] (mW R T K D s) Q := by
  refine e_X11_openSet ?_
  have hd5 := r.ok.2.1.2.1.2
  obtain ⟨w, hw, ew⟩ := hm
  have h5 := pow5 hd5
  refine iX11_openSet_0 (iX11_openSet_1 rfl (iX11_openSet_2 (iX11_openSet_3 rfl ?_)))
  suffices key : ∀ i, i ≤ d → V kX11_openSet 4 [some (.ref 16), some (.int (nI (w % 2 ^ i))), some (.int (nI i))] [] (mW R T K D s) 0 0 (qI Q) by
    have := key 0 (Nat.zero_le _)
    rw [Nat.pow_zero, Nat.mod_one] at this
    exact this
  refine dn d ?_
  intro i hi ih
  refine iX11_openSet_4 (iX11_openSet_5 (iX11_openSet_6 rfl rfl (iX11_openSet_9 (iX11_openSet_11 (j := 24) rfl rfl (by decide) (by decide) ?_))))
  rw [r.e24, r.ok.2.1.2.1.1]
  refine iX11_openSet_12 (fun q => ?_) (fun q => ?_)
  · have e := eq_of hi (by omega) q
    subst e
    rw [Nat.mod_eq_of_lt hw, ← ew]
    refine iX11_openSet_39 ?_
    exact iX11_openSet_40 h
  · have hlt := nlt_of (by omega) q
    have ih := ih hlt
    have e1 : nI i + 1 = nI (i + 1) := nI_1 i
    refine iX11_openSet_15 (iX11_openSet_16 (iX11_openSet_17 rfl rfl (iX11_openSet_20 (iX11_openSet_22 (iX11_openSet_23 (iX11_openSet_24 (iX11_openSet_25 (iX11_openSet_26 (iX11_openSet_27 (iX11_openSet_28 rfl (ix3 25 2 i 1) (by omega) (by decide) ?_))))))))))
    rw [r.fl i hlt, ew]
    refine iX11_openSet_29 (iX11_openSet_30 (iX11_openSet_31 ?_))
    rw [opS w (by omega) i (by omega)]
    refine iX11_openSet_32 rfl (iX11_openSet_33 rfl (iX11_openSet_36 ?_))
    rw [e1]
    exact ih
theorem M_burnsBy (r : Rl c R n d p u k) (ht : 0 ≤ t) (h : Q (stdy c d w + l_sum (bBre c.2 t) k) (mW R T K D s)) : CallI kX11_burnsBy [.ref 16, .int t, .int w] (mW R T K D s) Q := by
  refine e_X11_burnsBy ?_
  have hk := r.ok.2.1.2.2.2
  have hk6 := hk.1
  have hd5 := r.ok.2.1.2.1.2
  refine iX11_burnsBy_0 (iX11_burnsBy_1 rfl (iX11_burnsBy_2 (iX11_burnsBy_3 rfl ?_)))
  have two : V kX11_burnsBy 51 [some (.ref 16), some (.int t), some (.int w), some (.int (stdy c d w)), some (.int (nI d))] [] (mW R T K D s) 0 0 (qI Q) := by
    refine iX11_burnsBy_51 (iX11_burnsBy_52 rfl ?_)
    have key : ∀ i, i ≤ k → V kX11_burnsBy 54 [some (.ref 16), some (.int t), some (.int w), some (.int (stdy c d w + l_sum (bBre c.2 t) i)), some (.int (nI i))] [] (mW R T K D s) 0 0 (qI Q) := by
      refine dn k ?_
      intro i hi ih
      refine iX11_burnsBy_54 (iX11_burnsBy_56 (iX11_burnsBy_57 rfl rfl (iX11_burnsBy_60 (iX11_burnsBy_62 (j := 63) rfl rfl (by decide) (by decide) ?_))))
      rw [r.e63, r.ok.2.1.2.2.1]
      refine iX11_burnsBy_63 (fun q => ?_) (fun q => ?_)
      · have e := eq_of hi (by omega) q
        subst e
        refine iX11_burnsBy_105 ?_
        exact iX11_burnsBy_106 h
      · have hlt := nlt_of (by omega) q
        have ih := ih hlt
        obtain ⟨v, hv, ev⟩ := hk.2 i hlt
        have e1 : nI i + 1 = nI (i + 1) := nI_1 i
        have e2 : l_sum (bBre c.2 t) (i + 1) = l_sum (bBre c.2 t) i + bBre c.2 t i := rfl
        have fin : ∀ v, v = bBre c.2 t i → V kX11_burnsBy 97 [some (.ref 16), some (.int t), some (.int w), some (.int (stdy c d w + l_sum (bBre c.2 t) i)), some (.int (nI i))] [.int v, .int (stdy c d w + l_sum (bBre c.2 t) i)] (mW R T K D s) 0 0 (qI Q) := by
          intro v hv
          subst hv
          refine iX11_burnsBy_97 ?_
          rw [Int32.add_assoc, ← e2]
          refine iX11_burnsBy_98 rfl (iX11_burnsBy_99 rfl (iX11_burnsBy_102 ?_))
          rw [e1]
          exact ih
        refine iX11_burnsBy_66 (iX11_burnsBy_67 (iX11_burnsBy_68 (iX11_burnsBy_70 ?_)))
        refine iX11_burnsBy_71 rfl (Nat.le_of_ble_eq_true rfl) (M_isIn r hlt (fun q3 => ?_) (fun q3 => ?_))
        · have e3 : bBre c.2 t i = kBre v t := by
            unfold bBre
            rw [if_pos q3, ev, nI_clamp (by omega)]
          refine iX11_burnsBy_74 (fun h => False.elim (by revert h; decide)) (fun _ => (iX11_burnsBy_77 (iX11_burnsBy_78 rfl rfl (iX11_burnsBy_81 (iX11_burnsBy_83 (iX11_burnsBy_84 (iX11_burnsBy_86 (iX11_burnsBy_87 (iX11_burnsBy_88 rfl (ix2 64 4 i) (by omega) (by decide) (iX11_burnsBy_89 ?_))))))))))
          rw [r.m0 i hlt, ev]
          refine iX11_burnsBy_90 (Nat.le_of_ble_eq_true rfl) (M_breathBy ht hv (iX11_burnsBy_93 ?_))
          exact fin _ e3.symm
        · have e3 : bBre c.2 t i = 0 := by unfold bBre; rw [if_neg q3]
          refine iX11_burnsBy_74 (fun _ => (iX11_burnsBy_96 ?_)) (fun h => False.elim (by revert h; decide))
          exact fin _ e3.symm
    have := key 0 (Nat.zero_le _)
    rw [show l_sum (bBre c.2 t) 0 = 0 from rfl, Int32.add_zero] at this
    exact this
  have key : ∀ i, i ≤ d → V kX11_burnsBy 5 [some (.ref 16), some (.int t), some (.int w), some (.int (1 + l_sum (cDr c w) i)), some (.int (nI i))] [] (mW R T K D s) 0 0 (qI Q) := by
    refine dn d ?_
    intro i hi ih
    refine iX11_burnsBy_5 (iX11_burnsBy_7 (iX11_burnsBy_8 rfl rfl (iX11_burnsBy_11 (iX11_burnsBy_13 (j := 24) rfl rfl (by decide) (by decide) ?_))))
    rw [r.e24, r.ok.2.1.2.1.1]
    refine iX11_burnsBy_14 (fun q => ?_) (fun q => ?_)
    · have e := eq_of hi (by omega) q
      subst e
      exact two
    · have hlt := nlt_of (by omega) q
      have ih := ih hlt
      have e1 : nI i + 1 = nI (i + 1) := nI_1 i
      have e2 : l_sum (cDr c w) (i + 1) = l_sum (cDr c w) i + cDr c w i := rfl
      have fin : ∀ v, v = cDr c w i → V kX11_burnsBy 43 [some (.ref 16), some (.int t), some (.int w), some (.int (1 + l_sum (cDr c w) i)), some (.int (nI i))] [.int v, .int (1 + l_sum (cDr c w) i)] (mW R T K D s) 0 0 (qI Q) := by
        intro v hv
        subst hv
        refine iX11_burnsBy_43 ?_
        rw [Int32.add_assoc, ← e2]
        refine iX11_burnsBy_44 rfl (iX11_burnsBy_45 rfl (iX11_burnsBy_48 ?_))
        rw [e1]
        exact ih
      refine iX11_burnsBy_17 (iX11_burnsBy_18 (iX11_burnsBy_19 ?_))
      refine iX11_burnsBy_21 (Nat.le_of_ble_eq_true rfl) (M_has (fun q3 => ?_) (fun q3 => ?_))
      · refine iX11_burnsBy_24 (fun h => False.elim (by revert h; decide)) (fun _ => (iX11_burnsBy_27 (iX11_burnsBy_28 rfl rfl (iX11_burnsBy_31 (iX11_burnsBy_33 (iX11_burnsBy_34 (iX11_burnsBy_36 (iX11_burnsBy_37 (iX11_burnsBy_38 rfl (ix2 25 2 i) (by omega) (by decide) ?_)))))))))
        rw [r.dr i hlt]
        refine iX11_burnsBy_39 ?_
        exact fin _ (by unfold cDr; rw [if_pos q3])
      · refine iX11_burnsBy_24 (fun _ => (iX11_burnsBy_42 ?_)) (fun h => False.elim (by revert h; decide))
        exact fin _ (by unfold cDr; rw [if_neg q3])
  have := key 0 (Nat.zero_le _)
  rw [show l_sum (cDr c w) 0 = 0 from rfl, Int32.add_zero] at this
  exact this
theorem clip_eq {a b : Int32} (h : a ≤ b) : (if a < b then a else b) = a := by
  by_cases g : a < b
  · rw [if_pos g]
  · rw [if_neg g]
    exact Int32.le_antisymm (i32_nlt g) h
theorem M_minutesTo (r : Rl c R n d p u k) (hs : Sm c n d) (hg : Hw c y g) (h : Q (mtS (fun j => goS (l_sum g n) (stdy c d w) (brt c k) (if l_sum g n < c.1 1 then l_sum g n else c.1 1) (j + 1)) x 200 0) (mW R T K D s)) : CallI kX11_minutesTo [.ref 16, .int x, .int w, .int y] (mW R T K D s) Q := by
  refine e_X11_minutesTo ?_
  generalize hb0 : (if l_sum g n < c.1 1 then l_sum g n else c.1 1) = b0 at h
  have key : ∀ j, j ≤ 200 → mtS (fun j => goS (l_sum g n) (stdy c d w) (brt c k) b0 (j + 1)) x (200 - j) j = mtS (fun j => goS (l_sum g n) (stdy c d w) (brt c k) b0 (j + 1)) x 200 0 → V kX11_minutesTo 34 [some (.ref 16), some (.int x), some (.int w), some (.int y), some (.int (l_sum g n)), some (.int (goS (l_sum g n) (stdy c d w) (brt c k) b0 j)), some (.int (nI (j + 1)))] [] (mW R T K D s) 0 0 (qI Q) := by
    refine dn 200 ?_
    intro j hj ih he
    refine iX11_minutesTo_34 (iX11_minutesTo_36 ?_)
    refine iX11_minutesTo_39 (fun q => ?_) (fun q => ?_)
    · have : 200 < j + 1 := (nI_ltI (a := 200) (by omega) (by omega)).mp q
      have e : j = 200 := by omega
      subst e
      rw [Nat.sub_self] at he
      have he : (-1 : Int32) = _ := he
      rw [← he] at h
      refine iX11_minutesTo_94 ?_
      exact iX11_minutesTo_95 h
    · have hlt : j < 200 := by
        rcases Nat.lt_or_ge j 200 with a | a
        · exact a
        · exact absurd (nI_lt (show 200 < j + 1 by omega) (by omega)) q
      have e1 : nI (j + 1) + 1 = nI (j + 2) := nI_1 (j + 1)
      have e2 : c.1 3 + nI (j + 1) - 1 = c.1 3 + nI j := by rw [← nI_1, ← Int32.add_assoc, Int32.add_sub_cancel]
      have e3 : goS (l_sum g n) (stdy c d w) (brt c k) b0 (j + 1) = if goS (l_sum g n) (stdy c d w) (brt c k) b0 j + stdy c d w + brt c k j < l_sum g n then goS (l_sum g n) (stdy c d w) (brt c k) b0 j + stdy c d w + brt c k j else l_sum g n := rfl
      have e4 : mtS (fun j => goS (l_sum g n) (stdy c d w) (brt c k) b0 (j + 1)) x (200 - j) j = if goS (l_sum g n) (stdy c d w) (brt c k) b0 (j + 1) < x then mtS (fun j => goS (l_sum g n) (stdy c d w) (brt c k) b0 (j + 1)) x (200 - (j + 1)) (j + 1) else nI (j + 1) := by
        rw [show 200 - j = (200 - (j + 1)) + 1 by omega]
        rfl
      have ih := ih hlt
      have fin : V kX11_minutesTo 79 [some (.ref 16), some (.int x), some (.int w), some (.int y), some (.int (l_sum g n)), some (.int (goS (l_sum g n) (stdy c d w) (brt c k) b0 (j + 1))), some (.int (nI (j + 1)))] [] (mW R T K D s) 0 0 (qI Q) := by
        refine iX11_minutesTo_79 (iX11_minutesTo_81 ?_)
        refine iX11_minutesTo_82 (fun q2 => ?_) (fun q2 => ?_)
        · rw [if_pos q2] at e4
          refine iX11_minutesTo_88 rfl (iX11_minutesTo_91 ?_)
          rw [e1]
          exact ih (e4.symm.trans he)
        · rw [if_neg q2] at e4
          rw [← he, e4] at h
          refine iX11_minutesTo_85 ?_
          exact iX11_minutesTo_87 h
      refine iX11_minutesTo_42 (iX11_minutesTo_44 (iX11_minutesTo_45 (iX11_minutesTo_46 rfl rfl (iX11_minutesTo_49 (iX11_minutesTo_50 (j := 2) rfl rfl (by decide) (by decide) (iX11_minutesTo_51 (iX11_minutesTo_53 (iX11_minutesTo_54 ?_))))))))
      rw [r.e2]
      refine iX11_minutesTo_55 ?_
      rw [e2]
      refine iX11_minutesTo_56 (iX11_minutesTo_57 rfl (Nat.le_of_ble_eq_true rfl) (M_burnsBy r (tm_ok hs (by omega)) ?_))
      refine iX11_minutesTo_60 ?_
      rw [← Int32.add_assoc]
      have e5 : l_sum (bBre c.2 (c.1 3 + nI j)) k = brt c k j := rfl
      rw [e5]
      refine iX11_minutesTo_61 rfl (iX11_minutesTo_63 (iX11_minutesTo_65 ?_))
      refine iX11_minutesTo_67 (fun q2 => ?_) (fun q2 => ?_)
      · rw [clip_eq q2] at e3
        rw [e3] at fin
        refine iX11_minutesTo_75 (iX11_minutesTo_77 rfl ?_)
        exact fin
      · rw [if_neg (fun a => q2 (Int32.le_of_lt a))] at e3
        rw [e3] at fin
        refine iX11_minutesTo_70 (iX11_minutesTo_72 (iX11_minutesTo_77 rfl ?_))
        exact fin
  refine iX11_minutesTo_0 (iX11_minutesTo_1 (iX11_minutesTo_2 rfl (Nat.le_of_ble_eq_true rfl) (M_allWax r hg ?_)))
  refine iX11_minutesTo_5 rfl (iX11_minutesTo_7 (iX11_minutesTo_8 rfl rfl (iX11_minutesTo_11 (iX11_minutesTo_12 (j := 1) rfl rfl (by decide) (by decide) (iX11_minutesTo_13 ?_)))))
  rw [r.e1]
  have k0 := key 0 (Nat.zero_le _) rfl
  rw [show goS (l_sum g n) (stdy c d w) (brt c k) b0 0 = b0 from rfl] at k0
  refine iX11_minutesTo_15 (fun q => ?_) (fun q => ?_)
  · rw [if_neg (i32_len q)] at hb0
    refine iX11_minutesTo_23 (iX11_minutesTo_24 rfl rfl (iX11_minutesTo_27 (iX11_minutesTo_28 (j := 1) rfl rfl (by decide) (by decide) ?_)))
    rw [r.e1, hb0]
    refine iX11_minutesTo_29 rfl (iX11_minutesTo_31 (iX11_minutesTo_32 rfl ?_))
    exact k0
  · rw [if_pos (i32_nle q)] at hb0
    refine iX11_minutesTo_18 (iX11_minutesTo_20 ?_)
    rw [hb0] at k0 ⊢
    refine iX11_minutesTo_29 rfl (iX11_minutesTo_31 (iX11_minutesTo_32 rfl ?_))
    exact k0
theorem M_fallsBy (r : Rl c R n d p u k) (hs : Sm c n d) (hi : i ≤ n) (h : Q (fall c n d k w i) (mW R T K D s)) : CallI kX11_fallsBy [.ref 16, .int (nI i), .int w] (mW R T K D s) Q := by
  refine e_X11_fallsBy ?_
  unfold fall at h
  refine iX11_fallsBy_0 (iX11_fallsBy_1 (iX11_fallsBy_2 rfl (Nat.le_of_ble_eq_true rfl) (M_hasFallen r hi (fun q => ?_) (fun q => ?_))))
  · rw [if_pos q] at h
    refine iX11_fallsBy_5 (fun h => False.elim (by revert h; decide)) (fun _ => (iX11_fallsBy_8 (iX11_fallsBy_9 (iX11_fallsBy_24 rfl (iX11_fallsBy_25 (iX11_fallsBy_26 (iX11_fallsBy_27 (fun h => False.elim (by revert h; decide)) (fun _ => (iX11_fallsBy_30 (iX11_fallsBy_31 ?_))))))))))
    exact iX11_fallsBy_44 h
  · rw [if_neg q] at h
    unfold mOf minT at h
    have e : (fun j => goS (l_sum (c.2 0) n) (stdy c d w) (brt c k) (if l_sum (c.2 0) n < c.1 1 then l_sum (c.2 0) n else c.1 1) (j + 1)) = bhd c n d k w := by
      rw [if_neg hs.2.2]
      rfl
    refine iX11_fallsBy_5 (fun _ => (iX11_fallsBy_12 (iX11_fallsBy_13 (iX11_fallsBy_14 (iX11_fallsBy_15 (iX11_fallsBy_16 rfl (Nat.le_of_ble_eq_true rfl) (M_above r (Hw0 c) hi (iX11_fallsBy_19 (iX11_fallsBy_20 (iX11_fallsBy_21 rfl (Nat.le_of_ble_eq_true rfl) (M_minutesTo r hs (Hw0 c) ?_))))))))))) (fun h => False.elim (by revert h; decide))
    rw [e]
    refine iX11_fallsBy_24 rfl (iX11_fallsBy_25 (iX11_fallsBy_26 ?_))
    refine iX11_fallsBy_27 (fun q2 => ?_) (fun q2 => ?_)
    · rw [if_neg q2] at h
      refine iX11_fallsBy_34 (iX11_fallsBy_35 rfl rfl (iX11_fallsBy_38 (iX11_fallsBy_39 (j := 2) rfl rfl (by decide) (by decide) (iX11_fallsBy_40 ?_))))
      rw [r.e2]
      refine iX11_fallsBy_41 (iX11_fallsBy_42 (iX11_fallsBy_43 ?_))
      exact iX11_fallsBy_44 h
    · rw [if_pos q2] at h
      refine iX11_fallsBy_30 (iX11_fallsBy_31 ?_)
      exact iX11_fallsBy_44 h
theorem M_outIn (r : Rl c R n d p u k) (hs : Sm c n d) (h : Q (minT c n d k (c.1 5) (l_sum (c.2 0) n)) (mW R T K D s)) : CallI kX11_outIn [.ref 16] (mW R T K D s) Q := by
  refine e_X11_outIn ?_
  have e : (fun j => goS (l_sum (c.2 0) n) (stdy c d (c.1 5)) (brt c k) (if l_sum (c.2 0) n < c.1 1 then l_sum (c.2 0) n else c.1 1) (j + 1)) = bhd c n d k (c.1 5) := by
    rw [if_neg hs.2.2]
    rfl
  refine iX11_outIn_0 (iX11_outIn_1 (iX11_outIn_2 (iX11_outIn_3 rfl (Nat.le_of_ble_eq_true rfl) (M_allWax r (Hw0 c) (iX11_outIn_6 (iX11_outIn_7 rfl (Nat.le_of_ble_eq_true rfl) (M_openSet r hs.1 (iX11_outIn_10 (iX11_outIn_11 rfl (Nat.le_of_ble_eq_true rfl) (M_minutesTo r hs (Hw0 c) ?_))))))))))
  rw [e]
  exact iX11_outIn_14 h
end Mod3
