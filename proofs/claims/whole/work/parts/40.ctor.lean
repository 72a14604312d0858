theorem wc7 : Cond.castable "CandleHouse$Sleeper" "CandleHouse$Plain" ∈ lw_tbl := List.mem_of_getElem? (i := 1276) (by decide +kernel)
theorem wc2 : Cond.castable "CandleHouse$Leaner" "CandleHouse$Plain" ∈ lw_tbl := List.mem_of_getElem? (i := 1277) (by decide +kernel)
theorem wc9 : Cond.castable "CandleHouse$Speaker" "CandleHouse$Plain" ∈ lw_tbl := List.mem_of_getElem? (i := 1278) (by decide +kernel)
theorem wc8 : Cond.castable "CandleHouse$Snorer" "CandleHouse$Plain" ∈ lw_tbl := List.mem_of_getElem? (i := 1279) (by decide +kernel)
theorem wc4 : Cond.castable "CandleHouse$Patron" "CandleHouse$Plain" ∈ lw_tbl := List.mem_of_getElem? (i := 1280) (by decide +kernel)
theorem sn7 {C : String} : Site kX7_init kX5_init 1 (some C) 1 := Site_IN (C := C) dX7_init_1 ⟨cw_X5_init.1, cw_X5_init.2.1, cw_X5_init.2.2.1, cw_X5_init.2.2.2, by decide, by decide⟩ rfl w54 w44 rfl
theorem sn2 {C : String} : Site kX2_init kX5_init 1 (some C) 1 := Site_IN (C := C) dX2_init_1 ⟨cw_X5_init.1, cw_X5_init.2.1, cw_X5_init.2.2.1, cw_X5_init.2.2.2, by decide, by decide⟩ rfl w61 w44 rfl
theorem sn9 {C : String} : Site kX9_init kX5_init 1 (some C) 1 := Site_IN (C := C) dX9_init_1 ⟨cw_X5_init.1, cw_X5_init.2.1, cw_X5_init.2.2.1, cw_X5_init.2.2.2, by decide, by decide⟩ rfl w68 w44 rfl
theorem sn8 {C : String} : Site kX8_init kX7_init 1 (some C) 1 := Site_IN (C := C) dX8_init_1 ⟨cw_X7_init.1, cw_X7_init.2.1, cw_X7_init.2.2.1, cw_X7_init.2.2.2, by decide, by decide⟩ rfl w75 w52 rfl
theorem sn4 {C : String} : Site kX4_init kX2_init 1 (some C) 1 := Site_IN (C := C) dX4_init_1 ⟨cw_X2_init.1, cw_X2_init.2.1, cw_X2_init.2.2.1, cw_X2_init.2.2.2, by decide, by decide⟩ rfl w82 w59 rfl
section Ctor
variable {Q : Wd → Prop} {ws : Wd} {r ci : Nat} {fs : List Value} {q : vw_C}
theorem I_X5 (h : Q ws) : CallV kX5_init [.ref r] ws Q := by
  refine e_X5_init ?_
  refine iX5_init_0 (iX5_init_1 (Nat.le_of_ble_eq_true rfl) ?_)
  exact iX5_init_4 h
theorem I_X7 (hr : ws[r]? = some (ob ci fs)) (hq : clsL[ci]? = some q) (h : Q ws) : CallV kX7_init [.ref (r + 16)] ws Q := by
  refine e_X7_init ?_
  refine iX7_init_0 ?_
  refine V_cv (As := [.ref (r + 16)]) ⟨sn7, rfl, rfl⟩ (by rw [Nat.add_comm r 16]; exact Rc_ob hr hq) rfl (Nat.le_of_ble_eq_true rfl) (Nat.zero_le _) (Nat.zero_le _) (I_X5 ?_)
  exact iX7_init_4 h
theorem I_X2 (hr : ws[r]? = some (ob ci fs)) (hq : clsL[ci]? = some q) (h : Q ws) : CallV kX2_init [.ref (r + 16)] ws Q := by
  refine e_X2_init ?_
  refine iX2_init_0 ?_
  refine V_cv (As := [.ref (r + 16)]) ⟨sn2, rfl, rfl⟩ (by rw [Nat.add_comm r 16]; exact Rc_ob hr hq) rfl (Nat.le_of_ble_eq_true rfl) (Nat.zero_le _) (Nat.zero_le _) (I_X5 ?_)
  exact iX2_init_4 h
theorem I_X9 (hr : ws[r]? = some (ob ci fs)) (hq : clsL[ci]? = some q) (h : Q ws) : CallV kX9_init [.ref (r + 16)] ws Q := by
  refine e_X9_init ?_
  refine iX9_init_0 ?_
  refine V_cv (As := [.ref (r + 16)]) ⟨sn9, rfl, rfl⟩ (by rw [Nat.add_comm r 16]; exact Rc_ob hr hq) rfl (Nat.le_of_ble_eq_true rfl) (Nat.zero_le _) (Nat.zero_le _) (I_X5 ?_)
  exact iX9_init_4 h
theorem I_X8 (hr : ws[r]? = some (ob ci fs)) (hq : clsL[ci]? = some q) (h : Q ws) : CallV kX8_init [.ref (r + 16)] ws Q := by
  refine e_X8_init ?_
  refine iX8_init_0 ?_
  refine V_cv (As := [.ref (r + 16)]) ⟨sn8, rfl, rfl⟩ (by rw [Nat.add_comm r 16]; exact Rc_ob hr hq) rfl (Nat.le_of_ble_eq_true rfl) (Nat.zero_le _) (Nat.zero_le _) (I_X7 hr hq ?_)
  exact iX8_init_4 h
theorem I_X4 (hr : ws[r]? = some (ob ci fs)) (hq : clsL[ci]? = some q) (h : Q ws) : CallV kX4_init [.ref (r + 16)] ws Q := by
  refine e_X4_init ?_
  refine iX4_init_0 ?_
  refine V_cv (As := [.ref (r + 16)]) ⟨sn4, rfl, rfl⟩ (by rw [Nat.add_comm r 16]; exact Rc_ob hr hq) rfl (Nat.le_of_ble_eq_true rfl) (Nat.zero_le _) (Nat.zero_le _) (I_X2 hr hq ?_)
  exact iX4_init_4 h
theorem I_X0 (h : Q (bnW 0 (fun _ _ => 0))) : CallV kX0_init [.ref 16] [ob 0 [.null, .null, .null, .null, .null, .int 0]] Q := by
  refine e_X0_init ?_
  refine iX0_init_0 (iX0_init_1 (Nat.le_of_ble_eq_true rfl) (iX0_init_4 (iX0_init_5 (iX0_init_7 (by decide) (by decide) rfl (iX0_init_9 rfl (Nat.le_of_ble_eq_true rfl) (iX0_init_12 (iX0_init_13 (iX0_init_15 (by decide) (by decide) rfl (iX0_init_17 rfl (Nat.le_of_ble_eq_true rfl) (iX0_init_20 (iX0_init_21 (iX0_init_23 (by decide) (by decide) rfl (iX0_init_25 rfl (Nat.le_of_ble_eq_true rfl) (iX0_init_28 (iX0_init_29 (iX0_init_31 (by decide) (by decide) rfl (iX0_init_33 rfl (Nat.le_of_ble_eq_true rfl) (iX0_init_36 (iX0_init_37 (iX0_init_39 (by decide) (by decide) rfl ?_))))))))))))))))))))
  change V kX0_init 42 _ [.ref 21, .ref 16] [ob 0 [.null, .ref 17, .ref 18, .ref 19, .ref 20, .int 0], ia 0 6 (fun _ => 0), ia 0 6 (fun _ => 0), ia 0 6 (fun _ => 0), ia 0 6 (fun _ => 0), ra 3 [none, none, none, none, none, none]] 5 30 _
  refine iX0_init_42 rfl (iX0_init_43 (iX0_init_44 (by decide) (by decide) rfl ?_))
  change V kX0_init 47 _ [.ref 22, .int 0, .ref 21, .ref 21, .ref 16] [ob 0 [.null, .ref 17, .ref 18, .ref 19, .ref 20, .int 0], ia 0 6 (fun _ => 0), ia 0 6 (fun _ => 0), ia 0 6 (fun _ => 0), ia 0 6 (fun _ => 0), ra 3 [none, none, none, none, none, none], ob 5 []] 6 30 _
  refine iX0_init_47 rfl (iX0_init_48 rfl (Nat.le_of_ble_eq_true rfl) (by decide) (by decide) (I_X5 (iX0_init_51 (j := 0) rfl rfl (by decide) (by decide) rfl rfl (Or.inr rfl) ?_)))
  change V kX0_init 52 _ [.ref 21, .ref 16] [ob 0 [.null, .ref 17, .ref 18, .ref 19, .ref 20, .int 0], ia 0 6 (fun _ => 0), ia 0 6 (fun _ => 0), ia 0 6 (fun _ => 0), ia 0 6 (fun _ => 0), ra 3 [some 22, none, none, none, none, none], ob 5 []] 6 30 _
  refine iX0_init_52 rfl (iX0_init_53 (iX0_init_54 (by decide) (by decide) rfl ?_))
  change V kX0_init 57 _ [.ref 23, .int 1, .ref 21, .ref 21, .ref 16] [ob 0 [.null, .ref 17, .ref 18, .ref 19, .ref 20, .int 0], ia 0 6 (fun _ => 0), ia 0 6 (fun _ => 0), ia 0 6 (fun _ => 0), ia 0 6 (fun _ => 0), ra 3 [some 22, none, none, none, none, none], ob 5 [], ob 7 []] 7 30 _
  refine iX0_init_57 rfl (iX0_init_58 rfl (Nat.le_of_ble_eq_true rfl) (by decide) (by decide) (I_X7 (r := 7) rfl rfl (iX0_init_61 (j := 1) rfl rfl (by decide) (by decide) rfl rfl (Or.inl wc7) ?_)))
  change V kX0_init 62 _ [.ref 21, .ref 16] [ob 0 [.null, .ref 17, .ref 18, .ref 19, .ref 20, .int 0], ia 0 6 (fun _ => 0), ia 0 6 (fun _ => 0), ia 0 6 (fun _ => 0), ia 0 6 (fun _ => 0), ra 3 [some 22, some 23, none, none, none, none], ob 5 [], ob 7 []] 7 30 _
  refine iX0_init_62 rfl (iX0_init_63 (iX0_init_64 (by decide) (by decide) rfl ?_))
  change V kX0_init 67 _ [.ref 24, .int 2, .ref 21, .ref 21, .ref 16] [ob 0 [.null, .ref 17, .ref 18, .ref 19, .ref 20, .int 0], ia 0 6 (fun _ => 0), ia 0 6 (fun _ => 0), ia 0 6 (fun _ => 0), ia 0 6 (fun _ => 0), ra 3 [some 22, some 23, none, none, none, none], ob 5 [], ob 7 [], ob 2 []] 8 30 _
  refine iX0_init_67 rfl (iX0_init_68 rfl (Nat.le_of_ble_eq_true rfl) (by decide) (by decide) (I_X2 (r := 8) rfl rfl (iX0_init_71 (j := 2) rfl rfl (by decide) (by decide) rfl rfl (Or.inl wc2) ?_)))
  change V kX0_init 72 _ [.ref 21, .ref 16] [ob 0 [.null, .ref 17, .ref 18, .ref 19, .ref 20, .int 0], ia 0 6 (fun _ => 0), ia 0 6 (fun _ => 0), ia 0 6 (fun _ => 0), ia 0 6 (fun _ => 0), ra 3 [some 22, some 23, some 24, none, none, none], ob 5 [], ob 7 [], ob 2 []] 8 30 _
  refine iX0_init_72 rfl (iX0_init_73 (iX0_init_74 (by decide) (by decide) rfl ?_))
  change V kX0_init 77 _ [.ref 25, .int 3, .ref 21, .ref 21, .ref 16] [ob 0 [.null, .ref 17, .ref 18, .ref 19, .ref 20, .int 0], ia 0 6 (fun _ => 0), ia 0 6 (fun _ => 0), ia 0 6 (fun _ => 0), ia 0 6 (fun _ => 0), ra 3 [some 22, some 23, some 24, none, none, none], ob 5 [], ob 7 [], ob 2 [], ob 9 []] 9 30 _
  refine iX0_init_77 rfl (iX0_init_78 rfl (Nat.le_of_ble_eq_true rfl) (by decide) (by decide) (I_X9 (r := 9) rfl rfl (iX0_init_81 (j := 3) rfl rfl (by decide) (by decide) rfl rfl (Or.inl wc9) ?_)))
  change V kX0_init 82 _ [.ref 21, .ref 16] [ob 0 [.null, .ref 17, .ref 18, .ref 19, .ref 20, .int 0], ia 0 6 (fun _ => 0), ia 0 6 (fun _ => 0), ia 0 6 (fun _ => 0), ia 0 6 (fun _ => 0), ra 3 [some 22, some 23, some 24, some 25, none, none], ob 5 [], ob 7 [], ob 2 [], ob 9 []] 9 30 _
  refine iX0_init_82 rfl (iX0_init_83 (iX0_init_84 (by decide) (by decide) rfl ?_))
  change V kX0_init 87 _ [.ref 26, .int 4, .ref 21, .ref 21, .ref 16] [ob 0 [.null, .ref 17, .ref 18, .ref 19, .ref 20, .int 0], ia 0 6 (fun _ => 0), ia 0 6 (fun _ => 0), ia 0 6 (fun _ => 0), ia 0 6 (fun _ => 0), ra 3 [some 22, some 23, some 24, some 25, none, none], ob 5 [], ob 7 [], ob 2 [], ob 9 [], ob 8 []] 10 30 _
  refine iX0_init_87 rfl (iX0_init_88 rfl (Nat.le_of_ble_eq_true rfl) (by decide) (by decide) (I_X8 (r := 10) rfl rfl (iX0_init_91 (j := 4) rfl rfl (by decide) (by decide) rfl rfl (Or.inl wc8) ?_)))
  change V kX0_init 92 _ [.ref 21, .ref 16] [ob 0 [.null, .ref 17, .ref 18, .ref 19, .ref 20, .int 0], ia 0 6 (fun _ => 0), ia 0 6 (fun _ => 0), ia 0 6 (fun _ => 0), ia 0 6 (fun _ => 0), ra 3 [some 22, some 23, some 24, some 25, some 26, none], ob 5 [], ob 7 [], ob 2 [], ob 9 [], ob 8 []] 10 30 _
  refine iX0_init_92 rfl (iX0_init_93 (iX0_init_94 (by decide) (by decide) rfl ?_))
  change V kX0_init 97 _ [.ref 27, .int 5, .ref 21, .ref 21, .ref 16] [ob 0 [.null, .ref 17, .ref 18, .ref 19, .ref 20, .int 0], ia 0 6 (fun _ => 0), ia 0 6 (fun _ => 0), ia 0 6 (fun _ => 0), ia 0 6 (fun _ => 0), ra 3 [some 22, some 23, some 24, some 25, some 26, none], ob 5 [], ob 7 [], ob 2 [], ob 9 [], ob 8 [], ob 4 []] 11 30 _
  refine iX0_init_97 rfl (iX0_init_98 rfl (Nat.le_of_ble_eq_true rfl) (by decide) (by decide) (I_X4 (r := 11) rfl rfl (iX0_init_101 (j := 5) rfl rfl (by decide) (by decide) rfl rfl (Or.inl wc4) ?_)))
  change V kX0_init 102 _ [.ref 21, .ref 16] [ob 0 [.null, .ref 17, .ref 18, .ref 19, .ref 20, .int 0], ia 0 6 (fun _ => 0), ia 0 6 (fun _ => 0), ia 0 6 (fun _ => 0), ia 0 6 (fun _ => 0), ra 3 [some 22, some 23, some 24, some 25, some 26, some 27], ob 5 [], ob 7 [], ob 2 [], ob 9 [], ob 8 [], ob 4 []] 11 30 _
  refine iX0_init_102 rfl (Nat.le_of_ble_eq_true rfl) ?_
  exact iX0_init_105 (by decide) (by decide) h
def z0 : Ch := (fun _ => 0, fun _ _ => 0)
theorem I_X1 (h : Q (chW (lgt z0 10))) : CallV kX1_init [.ref 16] [ob 1 [.null, .int 0, .int 0, .int 0, .int 0, .null, .int 0, .int 0, .null, .null, .null, .int 0, .null, .null, .null, .int 0]] Q := by
  refine e_X1_init ?_
  refine iX1_init_0 (iX1_init_1 (Nat.le_of_ble_eq_true rfl) (iX1_init_4 (iX1_init_5 (iX1_init_7 (by decide) (by decide) rfl (iX1_init_9 rfl (Nat.le_of_ble_eq_true rfl) (iX1_init_12 (iX1_init_13 (iX1_init_14 (by decide) (by decide) rfl (iX1_init_16 rfl (Nat.le_of_ble_eq_true rfl) (iX1_init_19 (iX1_init_20 (iX1_init_22 (by decide) (by decide) rfl (iX1_init_24 rfl (Nat.le_of_ble_eq_true rfl) (iX1_init_27 (iX1_init_28 (iX1_init_30 (by decide) (by decide) rfl (iX1_init_32 rfl (Nat.le_of_ble_eq_true rfl) (iX1_init_35 (iX1_init_36 (iX1_init_38 (by decide) (by decide) rfl (iX1_init_40 rfl (Nat.le_of_ble_eq_true rfl) (iX1_init_43 (iX1_init_44 (by decide) (by decide) rfl (iX1_init_47 rfl ?_))))))))))))))))))))))))
  change V kX1_init 48 _ [.ref 22, .ref 22, .ref 16] [ob 1 [.ref 17, .int 0, .int 0, .int 0, .int 0, .ref 18, .int 0, .int 0, .ref 19, .ref 20, .ref 21, .int 0, .null, .null, .null, .int 0], ia 0 20 (fun _ => 0), ia 0 5 (fun _ => 0), ia 0 9 (fun _ => 0), ia 0 9 (fun _ => 0), ia 0 9 (fun _ => 0), ob 0 [.null, .null, .null, .null, .null, .int 0]] 6 58 _
  refine iX1_init_48 [6] [ob 0 [.null, .null, .null, .null, .null, .int 0]] [.ref 16] rfl (by decide) rfl rfl (Nat.le_of_ble_eq_true rfl) (by decide) (by decide) rfl (I_X0 (fun _ => ?_))
  change V kX1_init 51 _ [.ref 22, .ref 16] [ob 1 [.ref 17, .int 0, .int 0, .int 0, .int 0, .ref 18, .int 0, .int 0, .ref 19, .ref 20, .ref 21, .int 0, .null, .null, .null, .int 0], ia 0 20 (fun _ => 0), ia 0 5 (fun _ => 0), ia 0 9 (fun _ => 0), ia 0 9 (fun _ => 0), ia 0 9 (fun _ => 0), ob 0 [.ref 27, .ref 23, .ref 24, .ref 25, .ref 26, .int 0], ia 0 6 (fun _ => 0), ia 0 6 (fun _ => 0), ia 0 6 (fun _ => 0), ia 0 6 (fun _ => 0), ra 3 [some 28, some 29, some 30, some 31, some 32, some 33], ob 5 [], ob 7 [], ob 2 [], ob 9 [], ob 8 [], ob 4 []] 17 88 _
  refine iX1_init_51 rfl (Nat.le_of_ble_eq_true rfl) (iX1_init_54 (iX1_init_55 (iX1_init_57 (by decide) (by decide) rfl (iX1_init_59 rfl (Nat.le_of_ble_eq_true rfl) (iX1_init_62 (iX1_init_63 (iX1_init_65 (by decide) (by decide) rfl (iX1_init_67 rfl (Nat.le_of_ble_eq_true rfl) (iX1_init_70 (iX1_init_71 ?_))))))))))
  change V kX1_init 73 _ [.int 10, .ref 16] (chW z0) 19 112 _
  refine iX1_init_73 rfl (Nat.le_of_ble_eq_true rfl) (by decide) (by decide) (S_lightAnew (fun g => absurd ⟨by decide, by decide⟩ g) (fun _ _ => (iX1_init_76 rfl ?_)))
  exact iX1_init_77 (by decide) (by decide) h
abbrev c0 : Ch := lgt z0 10
theorem I_X6 (h : Q (ssW (fun _ => 0) (fun _ => 0) (fun _ => 0))) : CallV kX6_init [.ref 16] [ob 6 [.null, .int 0, .int 0, .int 0, .int 0, .int 0, .null]] Q := by
  refine e_X6_init ?_
  refine iX6_init_0 (iX6_init_1 (Nat.le_of_ble_eq_true rfl) (iX6_init_4 (iX6_init_5 (iX6_init_8 (by decide) (by decide) rfl (iX6_init_10 rfl (Nat.le_of_ble_eq_true rfl) (iX6_init_13 (iX6_init_14 (iX6_init_15 (by decide) (by decide) rfl (iX6_init_17 rfl (Nat.le_of_ble_eq_true rfl) ?_)))))))))
  exact iX6_init_20 (by decide) (by decide) h
theorem I_X3 {c : Ch} (h : Q (ob 3 [.ref 17, .ref 37, .ref 38, .ref 39, .ref 40] :: (sh 1 (chW c) ++ [ia 0 200 (fun _ => 0), ia 0 200 (fun _ => 0), ia 0 4 (fun _ => 0), ia 0 4 (fun _ => 0)]))) : CallV kX3_init [.ref 16, .ref 17] (ob 3 [.null, .null, .null, .null, .null] :: sh 1 (chW c)) Q := by
  refine e_X3_init ?_
  refine iX3_init_0 (iX3_init_1 (Nat.le_of_ble_eq_true rfl) (iX3_init_4 (iX3_init_5 (iX3_init_8 (by decide) (by decide) rfl (iX3_init_10 rfl (Nat.le_of_ble_eq_true rfl) (iX3_init_13 (iX3_init_14 (iX3_init_17 (by decide) (by decide) rfl (iX3_init_19 rfl (Nat.le_of_ble_eq_true rfl) (iX3_init_22 (iX3_init_23 (iX3_init_24 (by decide) (by decide) rfl (iX3_init_26 rfl (Nat.le_of_ble_eq_true rfl) (iX3_init_29 (iX3_init_30 (iX3_init_31 (by decide) (by decide) rfl (iX3_init_33 rfl (Nat.le_of_ble_eq_true rfl) (iX3_init_36 (iX3_init_37 (iX3_init_38 rfl (Nat.le_of_ble_eq_true rfl) ?_))))))))))))))))))))
  exact iX3_init_41 (by decide) (by decide) h
theorem w_66 : wr (rn [83] 84) (ob 10 [.ref 17, .ref 37, .ref 57, .ref 98, .null, .null, .null] :: (sh 1 (chW c0) ++ (sh 21 (chW c0) ++ (ra 4 [some 58, some 78] :: (sh 42 (chW c0) ++ (sh 62 (chW c0) ++ ([ia 2 2 (fun _ => 0), ob 6 [.null, .int 0, .int 0, .int 0, .int 0, .int 0, .null]]))))))) [83] [ob 6 [.ref 17, .int 0, .int 0, .int 0, .int 0, .int 0, .ref 18]] ++ [ia 1 150 (fun _ => 0), ia 0 4 (fun _ => 0)].map (rc (rn [83] 84)) = ob 10 [.ref 17, .ref 37, .ref 57, .ref 98, .null, .null, .null] :: (sh 1 (chW c0) ++ (sh 21 (chW c0) ++ (ra 4 [some 58, some 78] :: (sh 42 (chW c0) ++ (sh 62 (chW c0) ++ ([ia 2 2 (fun _ => 0), ob 6 [.ref 100, .int 0, .int 0, .int 0, .int 0, .int 0, .ref 101], ia 1 150 (fun _ => 0), ia 0 4 (fun _ => 0)])))))) := by
  simp only [sh, chW, List.map_cons, List.map_nil, List.cons_append, List.nil_append, wr, List.set_cons_succ, List.set_cons_zero]
  rfl
theorem w_81 : wr (rn (86 :: plMC) 87) (ob 10 [.ref 17, .ref 37, .ref 57, .ref 98, .ref 99, .null, .null] :: (sh 1 (chW c0) ++ (sh 21 (chW c0) ++ (ra 4 [some 58, some 78] :: (sh 42 (chW c0) ++ (sh 62 (chW c0) ++ ([ia 2 2 (fun _ => 0), ob 6 [.ref 100, .int 0, .int 0, .int 0, .int 0, .int 0, .ref 101], ia 1 150 (fun _ => 0), ia 0 4 (fun _ => 0), ob 3 [.null, .null, .null, .null, .null]]))))))) (86 :: plMC) (ob 3 [.ref 17, .ref 37, .ref 38, .ref 39, .ref 40] :: sh 1 (chW c0)) ++ [ia 0 200 (fun _ => 0), ia 0 200 (fun _ => 0), ia 0 4 (fun _ => 0), ia 0 4 (fun _ => 0)].map (rc (rn (86 :: plMC) 87)) = ob 10 [.ref 17, .ref 37, .ref 57, .ref 98, .ref 99, .null, .null] :: (sh 1 (chW c0) ++ (sh 21 (chW c0) ++ (ra 4 [some 58, some 78] :: (sh 42 (chW c0) ++ (sh 62 (chW c0) ++ ([ia 2 2 (fun _ => 0), ob 6 [.ref 100, .int 0, .int 0, .int 0, .int 0, .int 0, .ref 101], ia 1 150 (fun _ => 0), ia 0 4 (fun _ => 0), ob 3 [.ref 17, .ref 103, .ref 104, .ref 105, .ref 106], ia 0 200 (fun _ => 0), ia 0 200 (fun _ => 0), ia 0 4 (fun _ => 0), ia 0 4 (fun _ => 0)])))))) := by
  simp only [sh, chW, List.map_cons, List.map_nil, List.cons_append, List.nil_append, wr, List.set_cons_succ, List.set_cons_zero]
  rfl
theorem p_81 : Pt2 (86 :: plMC) (ob 3 [.null, .null, .null, .null, .null] :: sh 1 (chW c0)) (ob 10 [.ref 17, .ref 37, .ref 57, .ref 98, .ref 99, .null, .null] :: (sh 1 (chW c0) ++ (sh 21 (chW c0) ++ (ra 4 [some 58, some 78] :: (sh 42 (chW c0) ++ (sh 62 (chW c0) ++ ([ia 2 2 (fun _ => 0), ob 6 [.ref 100, .int 0, .int 0, .int 0, .int 0, .int 0, .ref 101], ia 1 150 (fun _ => 0), ia 0 4 (fun _ => 0), ob 3 [.null, .null, .null, .null, .null]]))))))) := by
  unfold Pt2
  rw [show List.length (ob 10 [.ref 17, .ref 37, .ref 57, .ref 98, .ref 99, .null, .null] :: (sh 1 (chW c0) ++ (sh 21 (chW c0) ++ (ra 4 [some 58, some 78] :: (sh 42 (chW c0) ++ (sh 62 (chW c0) ++ ([ia 2 2 (fun _ => 0), ob 6 [.ref 100, .int 0, .int 0, .int 0, .int 0, .int 0, .ref 101], ia 1 150 (fun _ => 0), ia 0 4 (fun _ => 0), ob 3 [.null, .null, .null, .null, .null]]))))))) = 87 from rfl]
  simp only [plMC, sh, chW, List.map_cons, List.map_nil, List.cons_append, List.nil_append, List.getElem?_cons_zero, List.getElem?_cons_succ]
  rfl
theorem I_X10 (h : Q (hW (fun _ => c0) (fun _ _ => 0))) : CallV kX10_init [.ref 16] [ob 10 [.null, .null, .null, .null, .null, .null, .null]] Q := by
  refine e_X10_init ?_
  refine iX10_init_0 (iX10_init_1 (Nat.le_of_ble_eq_true rfl) (iX10_init_4 (iX10_init_5 (by decide) (by decide) rfl (iX10_init_8 rfl ?_))))
  change V kX10_init 9 _ [.ref 17, .ref 17, .ref 16] ([ob 10 [.null, .null, .null, .null, .null, .null, .null], ob 1 [.null, .int 0, .int 0, .int 0, .int 0, .null, .int 0, .int 0, .null, .null, .null, .int 0, .null, .null, .null, .int 0]]) 1 16 _
  refine iX10_init_9 [1] [ob 1 [.null, .int 0, .int 0, .int 0, .int 0, .null, .int 0, .int 0, .null, .null, .null, .int 0, .null, .null, .null, .int 0]] [.ref 16] (by unfold Pt2; rfl) (by decide) rfl rfl (Nat.le_of_ble_eq_true rfl) (by decide) (by decide) rfl (I_X1 (fun _ => ?_))
  change V kX10_init 12 _ [.ref 17, .ref 16] (ob 10 [.null, .null, .null, .null, .null, .null, .null] :: (sh 1 (chW c0))) 20 128 _
  refine iX10_init_12 rfl (Nat.le_of_ble_eq_true rfl) (iX10_init_15 (iX10_init_16 (by decide) (by decide) rfl (iX10_init_19 rfl ?_)))
  change V kX10_init 20 _ [.ref 37, .ref 37, .ref 16] (ob 10 [.ref 17, .null, .null, .null, .null, .null, .null] :: (sh 1 (chW c0) ++ ([ob 1 [.null, .int 0, .int 0, .int 0, .int 0, .null, .int 0, .int 0, .null, .null, .null, .int 0, .null, .null, .null, .int 0]]))) 21 144 _
  refine iX10_init_20 [21] [ob 1 [.null, .int 0, .int 0, .int 0, .int 0, .null, .int 0, .int 0, .null, .null, .null, .int 0, .null, .null, .null, .int 0]] [.ref 16] (by unfold Pt2; rfl) (by decide) rfl rfl (Nat.le_of_ble_eq_true rfl) (by decide) (by decide) rfl (I_X1 (fun _ => ?_))
  change V kX10_init 23 _ [.ref 37, .ref 16] (ob 10 [.ref 17, .null, .null, .null, .null, .null, .null] :: (sh 1 (chW c0) ++ (sh 21 (chW c0)))) 40 256 _
  refine iX10_init_23 rfl (Nat.le_of_ble_eq_true rfl) (iX10_init_26 (iX10_init_27 (iX10_init_28 (by decide) (by decide) rfl ?_)))
  change V kX10_init 31 _ [.ref 57, .ref 16] (ob 10 [.ref 17, .ref 37, .null, .null, .null, .null, .null] :: (sh 1 (chW c0) ++ (sh 21 (chW c0) ++ ([ra 4 [none, none]])))) 41 258 _
  refine iX10_init_31 rfl (iX10_init_32 (iX10_init_33 (by decide) (by decide) rfl (iX10_init_36 rfl ?_)))
  change V kX10_init 37 _ [.ref 58, .ref 58, .int 0, .ref 57, .ref 57, .ref 16] (ob 10 [.ref 17, .ref 37, .null, .null, .null, .null, .null] :: (sh 1 (chW c0) ++ (sh 21 (chW c0) ++ ([ra 4 [none, none], ob 1 [.null, .int 0, .int 0, .int 0, .int 0, .null, .int 0, .int 0, .null, .null, .null, .int 0, .null, .null, .null, .int 0]])))) 42 274 _
  refine iX10_init_37 [42] [ob 1 [.null, .int 0, .int 0, .int 0, .int 0, .null, .int 0, .int 0, .null, .null, .null, .int 0, .null, .null, .null, .int 0]] [.ref 16] (by unfold Pt2; rfl) (by decide) rfl rfl (Nat.le_of_ble_eq_true rfl) (by decide) (by decide) rfl (I_X1 (fun _ => ?_))
  change V kX10_init 40 _ [.ref 58, .int 0, .ref 57, .ref 57, .ref 16] (ob 10 [.ref 17, .ref 37, .null, .null, .null, .null, .null] :: (sh 1 (chW c0) ++ (sh 21 (chW c0) ++ (ra 4 [none, none] :: (sh 42 (chW c0)))))) 61 386 _
  refine iX10_init_40 (j := 0) (y := 42) (r := 41) rfl rfl (by decide) (by decide) rfl rfl (Or.inr rfl) (iX10_init_41 rfl (iX10_init_42 (iX10_init_43 (by decide) (by decide) rfl (iX10_init_46 rfl ?_))))
  change V kX10_init 47 _ [.ref 78, .ref 78, .int 1, .ref 57, .ref 57, .ref 16] (ob 10 [.ref 17, .ref 37, .null, .null, .null, .null, .null] :: (sh 1 (chW c0) ++ (sh 21 (chW c0) ++ (ra 4 [some 58, none] :: (sh 42 (chW c0) ++ ([ob 1 [.null, .int 0, .int 0, .int 0, .int 0, .null, .int 0, .int 0, .null, .null, .null, .int 0, .null, .null, .null, .int 0]])))))) 62 402 _
  refine iX10_init_47 [62] [ob 1 [.null, .int 0, .int 0, .int 0, .int 0, .null, .int 0, .int 0, .null, .null, .null, .int 0, .null, .null, .null, .int 0]] [.ref 16] (by unfold Pt2; rfl) (by decide) rfl rfl (Nat.le_of_ble_eq_true rfl) (by decide) (by decide) rfl (I_X1 (fun _ => ?_))
  change V kX10_init 50 _ [.ref 78, .int 1, .ref 57, .ref 57, .ref 16] (ob 10 [.ref 17, .ref 37, .null, .null, .null, .null, .null] :: (sh 1 (chW c0) ++ (sh 21 (chW c0) ++ (ra 4 [some 58, none] :: (sh 42 (chW c0) ++ (sh 62 (chW c0))))))) 81 514 _
  refine iX10_init_50 (j := 1) (y := 62) (r := 41) rfl rfl (by decide) (by decide) rfl rfl (Or.inr rfl) (iX10_init_51 rfl (Nat.le_of_ble_eq_true rfl) (iX10_init_54 (iX10_init_55 (iX10_init_56 (by decide) (by decide) rfl (iX10_init_58 rfl (Nat.le_of_ble_eq_true rfl) (iX10_init_61 (iX10_init_62 (by decide) (by decide) rfl (iX10_init_65 rfl ?_))))))))
  change V kX10_init 66 _ [.ref 99, .ref 99, .ref 16] (ob 10 [.ref 17, .ref 37, .ref 57, .ref 98, .null, .null, .null] :: (sh 1 (chW c0) ++ (sh 21 (chW c0) ++ (ra 4 [some 58, some 78] :: (sh 42 (chW c0) ++ (sh 62 (chW c0) ++ ([ia 2 2 (fun _ => 0), ob 6 [.null, .int 0, .int 0, .int 0, .int 0, .int 0, .null]]))))))) 83 523 _
  refine iX10_init_66 [83] [ob 6 [.null, .int 0, .int 0, .int 0, .int 0, .int 0, .null]] [.ref 16] (by unfold Pt2; rfl) (by decide) rfl rfl (Nat.le_of_ble_eq_true rfl) (by decide) (by decide) rfl (I_X6 (fun _ => ?_))
  change V kX10_init 69 _ [.ref 99, .ref 16] (wr (rn [83] 84) (_) [83] [ob 6 [.ref 17, .int 0, .int 0, .int 0, .int 0, .int 0, .ref 18]] ++ [ia 1 150 (fun _ => 0), ia 0 4 (fun _ => 0)].map (rc (rn [83] 84))) 85 677 _
  rw [w_66]
  refine iX10_init_69 rfl (Nat.le_of_ble_eq_true rfl) (iX10_init_72 (iX10_init_73 (by decide) (by decide) rfl (iX10_init_76 rfl (iX10_init_77 (iX10_init_78 rfl rfl ?_)))))
  change V kX10_init 81 _ [.ref 17, .ref 102, .ref 102, .ref 16] (ob 10 [.ref 17, .ref 37, .ref 57, .ref 98, .ref 99, .null, .null] :: (sh 1 (chW c0) ++ (sh 21 (chW c0) ++ (ra 4 [some 58, some 78] :: (sh 42 (chW c0) ++ (sh 62 (chW c0) ++ ([ia 2 2 (fun _ => 0), ob 6 [.ref 100, .int 0, .int 0, .int 0, .int 0, .int 0, .ref 101], ia 1 150 (fun _ => 0), ia 0 4 (fun _ => 0), ob 3 [.null, .null, .null, .null, .null]]))))))) 86 682 _
  refine iX10_init_81 (86 :: plMC) (ob 3 [.null, .null, .null, .null, .null] :: sh 1 (chW c0)) [.ref 16, .ref 17] p_81 (by decide) rfl rfl (Nat.le_of_ble_eq_true rfl) (by decide) (by decide) rfl (I_X3 (fun _ => ?_))
  change V kX10_init 84 _ [.ref 102, .ref 16] (wr (rn (86 :: plMC) 87) (_) (86 :: plMC) (ob 3 [.ref 17, .ref 37, .ref 38, .ref 39, .ref 40] :: sh 1 (chW c0)) ++ [ia 0 200 (fun _ => 0), ia 0 200 (fun _ => 0), ia 0 4 (fun _ => 0), ia 0 4 (fun _ => 0)].map (rc (rn (86 :: plMC) 87))) 90 1090 _
  rw [w_81]
  refine iX10_init_84 rfl (Nat.le_of_ble_eq_true rfl) (iX10_init_87 (iX10_init_88 (iX10_init_89 (by decide) (by decide) rfl (iX10_init_91 rfl (Nat.le_of_ble_eq_true rfl) ?_))))
  exact iX10_init_94 (by decide) (by decide) h
end Ctor
