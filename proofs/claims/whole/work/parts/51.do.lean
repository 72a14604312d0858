theorem upE (f : Nat → Int32) (i : Nat) (v : Int32) : upd f i v i = v := if_pos rfl
theorem upN {f : Nat → Int32} {i j : Nat} {v : Int32} (h : j ≠ i) : upd f i v j = f j := if_neg h
def bgL (R : Nat → Int32) (m q : Nat) : Nat → Int32 := fun j => if j < q then (if 4 ≤ j ∧ j < 4 + m then 4 else 0) else R j
def bgR (R : Nat → Int32) (m : Nat) : Nat → Int32 := upd (bgL R m 113) 0 (nI m)
theorem bgL_0 (R : Nat → Int32) (m : Nat) : bgL R m 0 = R := by
  funext j
  unfold bgL
  rw [if_neg (by omega)]
theorem bgL_s (R : Nat → Int32) (m q : Nat) (v : Int32) (hv : v = if 4 ≤ q ∧ q < 4 + m then 4 else 0) : upd (bgL R m q) q v = bgL R m (q + 1) := by
  funext j
  unfold upd bgL
  by_cases h : j = q
  · subst h
    rw [if_pos rfl, if_pos (by omega), hv]
  · rw [if_neg h]
    by_cases g : j < q
    · rw [if_pos g, if_pos (show j < q + 1 by omega)]
    · rw [if_neg g, if_neg (show ¬ j < q + 1 by omega)]
section Do
variable {c : Ch} {R T K D s : Nat → Int32} {n d p u k i : Nat} {x y z t w : Int32} {Q : Int32 → Wd → Prop} {ws : Wd}
theorem M_begin {m : Nat} {Q : Wd → Prop} (hm : m ≤ 20) (h : Q (mW (bgR R m) T K D s)) : CallV kX11_begin [.ref 16, .int (nI m)] (mW R T K D s) Q := by
  refine e_X11_begin ?_
  refine iX11_begin_0 (iX11_begin_1 rfl ?_)
  have key : ∀ q, q ≤ 113 → V kX11_begin 2 [some (.ref 16), some (.int (nI m)), some (.int (nI q))] [] (mW (bgL R m q) T K D s) 0 0 (qV Q) := by
    refine dn 113 ?_
    intro q hq ih
    refine iX11_begin_2 (iX11_begin_3 ?_)
    refine iX11_begin_5 (fun g => ?_) (fun g => ?_)
    · have e := eq_of (k := 113) hq (by omega) g
      subst e
      refine iX11_begin_37 (iX11_begin_38 rfl rfl (iX11_begin_41 (iX11_begin_42 (iX11_begin_43 (j := 0) rfl rfl (by decide) (by decide) ?_))))
      exact iX11_begin_44 h
    · have hlt := nlt_of (k := 113) (by omega) g
      have ih := ih hlt
      have e1 : nI q + 1 = nI (q + 1) := nI_1 q
      have fin : ∀ v, (v = if 4 ≤ q ∧ q < 4 + m then 4 else 0) → V kX11_begin 30 [some (.ref 16), some (.int (nI m)), some (.int (nI q))] [.int v, .int (nI q), .ref 17] (mW (bgL R m q) T K D s) 0 0 (qV Q) := by
        intro v hv
        rw [← bgL_s R m q v hv] at ih
        refine iX11_begin_30 (j := q) rfl rfl (by omega) (by decide) (iX11_begin_31 rfl (iX11_begin_34 ?_))
        rw [e1]
        exact ih
      refine iX11_begin_8 (iX11_begin_9 rfl rfl (iX11_begin_12 (iX11_begin_13 (iX11_begin_14 ?_))))
      refine iX11_begin_15 (fun g1 => ?_) (fun g1 => ?_)
      · have g1 := (nI_ltI (b := 4) (by omega) (by omega)).mp g1
        refine iX11_begin_29 ?_
        exact fin _ (by rw [if_neg (by omega)])
      · have g1 : 4 ≤ q := by
          rcases Nat.lt_or_ge q 4 with f | f
          · exact absurd (nI_lt f (by omega)) g1
          · exact f
        refine iX11_begin_18 (iX11_begin_19 (iX11_begin_20 ?_))
        refine iX11_begin_21 ?_
        rw [show (4 : Int32) = nI 4 from rfl, nI_add]
        refine iX11_begin_22 (fun g2 => ?_) (fun g2 => ?_)
        · have g2 := (nI_leI (by omega) (by omega)).mp g2
          refine iX11_begin_29 ?_
          exact fin _ (by rw [if_neg (by omega)])
        · have g2 : q < 4 + m := by
            rcases Nat.lt_or_ge q (4 + m) with f | f
            · exact f
            · exact absurd (nI_le f (by omega)) g2
          refine iX11_begin_25 (iX11_begin_26 ?_)
          exact fin _ (by rw [if_pos ⟨g1, g2⟩])
  have := key 0 (by omega)
  rw [bgL_0] at this
  exact this
theorem N_candle (hb : ¬ (1 ≤ x ∧ x ≤ 20) → Q (-2) (mW R T K D (bump s 1))) (ok : ∀ m, 1 ≤ m → m ≤ 20 → x = nI m → Q (R 0) (mW (bgR R m) T K D s)) : CallI kX11_candle [.ref 16, .int x] (mW R T K D s) Q := by
  refine e_X11_candle ?_
  refine iX11_candle_0 (iX11_candle_1 (iX11_candle_2 (iX11_candle_3 ?_)))
  refine iX11_candle_6 (Nat.le_of_ble_eq_true rfl) (S_in (lo := 1) (hi := 20) rfl rfl (fun a b => ?_) (fun a => ?_))
  · obtain ⟨m, hm, e⟩ := nI_of2 (M := 20) (n := 20) (by decide) (i32_len (Int32.le_trans (by decide : (0 : Int32) ≤ 1) a)) b
    have h1 : 1 ≤ m := (nI_leI (a := 1) (by omega) (by omega)).mp (by rw [← e]; exact a)
    have fin := ok m h1 hm e
    subst e
    refine iX11_candle_9 (fun _ => (iX11_candle_19 (iX11_candle_20 rfl rfl (iX11_candle_23 (iX11_candle_24 (j := 0) rfl rfl (by decide) (by decide) (iX11_candle_25 rfl (iX11_candle_26 (iX11_candle_27 (iX11_candle_28 rfl (Nat.le_of_ble_eq_true rfl) (M_begin hm (iX11_candle_31 ?_))))))))))) (fun h => False.elim (by revert h; decide))
    exact iX11_candle_32 fin
  · refine iX11_candle_9 (fun h => False.elim (by revert h; decide)) (fun _ => (iX11_candle_12 (iX11_candle_13 (iX11_candle_15 rfl (Nat.le_of_ble_eq_true rfl) (M_isBad ?_)))))
    exact iX11_candle_18 (hb a)
theorem N_thick (r : Rl c R n d p u k) (hb : ¬ ((0 ≤ x ∧ x ≤ nI n - 1) ∧ (1 ≤ y ∧ y ≤ 9)) → Q (-2) (mW R T K D (bump s 1))) (hn : ∀ q, q < n → x = nI q → (1 ≤ y ∧ y ≤ 9) → l_sum (c.2 0) q < c.1 1 → Q (-3) (mW R T K D (bump s 2))) (ok : ∀ q, q < n → x = nI q → (1 ≤ y ∧ y ≤ 9) → ¬ l_sum (c.2 0) q < c.1 1 → Q (c.2 0 q) (mW (upd R (4 + q) y) T K D s)) : CallI kX11_thick [.ref 16, .int x, .int y] (mW R T K D s) Q := by
  refine e_X11_thick ?_
  have hn20 := r.ok.2.1.1.2
  have bad : ¬ ((0 ≤ x ∧ x ≤ nI n - 1) ∧ (1 ≤ y ∧ y ≤ 9)) → V kX11_thick 20 [some (.ref 16), some (.int x), some (.int y), none] [] (mW R T K D s) 0 0 (qI Q) := by
    intro q
    refine iX11_thick_20 (iX11_thick_21 (iX11_thick_23 rfl (Nat.le_of_ble_eq_true rfl) (M_isBad ?_)))
    exact iX11_thick_26 (hb q)
  refine iX11_thick_0 (iX11_thick_1 (iX11_thick_2 rfl (Nat.le_of_ble_eq_true rfl) (M_isSlice r (fun q hq e => ?_) (fun a => ?_))))
  · subst e
    refine iX11_thick_5 (fun h => False.elim (by revert h; decide)) (fun _ => (iX11_thick_8 (iX11_thick_9 (iX11_thick_10 (iX11_thick_11 ?_)))))
    refine iX11_thick_14 (Nat.le_of_ble_eq_true rfl) (S_in (lo := 1) (hi := 9) rfl rfl (fun a2 b2 => ?_) (fun a2 => ?_))
    · refine iX11_thick_17 (fun _ => (iX11_thick_27 (iX11_thick_28 rfl rfl (iX11_thick_31 (iX11_thick_32 (j := 1) rfl rfl (by decide) (by decide) (iX11_thick_33 (iX11_thick_34 (iX11_thick_35 (iX11_thick_36 rfl (Nat.le_of_ble_eq_true rfl) (M_above r (Hw0 c) (Nat.le_of_lt hq) ?_)))))))))) (fun h => False.elim (by revert h; decide))
      rw [r.e1]
      refine iX11_thick_39 (fun g => ?_) (fun g => ?_)
      · have fin := ok q hq rfl ⟨a2, b2⟩ (i32_len g)
        refine iX11_thick_47 (iX11_thick_48 rfl rfl (iX11_thick_51 (iX11_thick_52 (iX11_thick_53 (iX11_thick_54 rfl (nI_add 4 q) (by omega) (by decide) ?_)))))
        rw [r.th q hq]
        refine iX11_thick_55 rfl (iX11_thick_56 (iX11_thick_57 rfl rfl (iX11_thick_60 (iX11_thick_61 (iX11_thick_62 (iX11_thick_63 (iX11_thick_64 rfl (nI_add 4 q) (by omega) (by decide) (iX11_thick_65 ?_))))))))
        exact iX11_thick_66 fin
      · have fin := hn q hq rfl ⟨a2, b2⟩ (i32_nle g)
        refine iX11_thick_42 (iX11_thick_43 rfl (Nat.le_of_ble_eq_true rfl) (M_isNo ?_))
        exact iX11_thick_46 fin
    · refine iX11_thick_17 (fun h => False.elim (by revert h; decide)) (fun _ => ?_)
      exact bad (fun z => a2 z.2)
  · refine iX11_thick_5 (fun _ => ?_) (fun h => False.elim (by revert h; decide))
    exact bad (fun z => a z.1)
def drR (R : Nat → Int32) (d : Nat) (x : Int32) : Nat → Int32 := upd (upd (upd R (25 + 2 * d) x) (25 + 2 * d + 1) 0) 24 (nI (d + 1))
theorem N_door (r : Rl c R n d p u k) (hb : ¬ (0 ≤ x ∧ x ≤ 3) → Q (-2) (mW R T K D (bump s 1))) (hf : (0 ≤ x ∧ x ≤ 3) → d = 5 → Q (-4) (mW R T K D (bump s 3))) (ok : (0 ≤ x ∧ x ≤ 3) → d < 5 → Q (nI d) (mW (drR R d x) T K D s)) : CallI kX11_door [.ref 16, .int x] (mW R T K D s) Q := by
  refine e_X11_door ?_
  have hd5 := r.ok.2.1.2.1.2
  have e24 : R 24 = nI d := by rw [r.e24, r.ok.2.1.2.1.1]
  refine iX11_door_0 (iX11_door_1 (iX11_door_2 (iX11_door_3 ?_)))
  refine iX11_door_6 (Nat.le_of_ble_eq_true rfl) (S_in (lo := 0) (hi := 3) rfl rfl (fun a b => ?_) (fun a => ?_))
  · refine iX11_door_9 (fun _ => (iX11_door_19 (iX11_door_20 rfl rfl (iX11_door_23 (iX11_door_25 (j := 24) rfl rfl (by decide) (by decide) ?_))))) (fun h => False.elim (by revert h; decide))
    rw [e24]
    refine iX11_door_26 ?_
    refine iX11_door_27 (fun g => ?_) (fun g => ?_)
    · have hlt : d < 5 := by
        rcases Nat.lt_or_ge d 5 with f | f
        · exact f
        · have : d = 5 := by omega
          exact absurd (by rw [this]; rfl) g
      have fin := ok ⟨a, b⟩ hlt
      refine iX11_door_35 (iX11_door_36 rfl rfl (iX11_door_39 (iX11_door_41 (iX11_door_42 (iX11_door_43 rfl rfl (iX11_door_46 (iX11_door_48 (j := 24) rfl rfl (by decide) (by decide) ?_)))))))
      rw [e24]
      refine iX11_door_49 (iX11_door_50 (iX11_door_51 (iX11_door_52 rfl (ix2 25 2 d) (by omega) (by decide) ?_)))
      refine iX11_door_53 (iX11_door_54 rfl rfl (iX11_door_57 (iX11_door_59 (iX11_door_60 (iX11_door_61 rfl rfl (iX11_door_64 (iX11_door_66 (j := 24) rfl rfl (by decide) (by decide) ?_)))))))
      rw [upN (by omega), e24]
      refine iX11_door_67 (iX11_door_68 (iX11_door_69 (iX11_door_70 (iX11_door_71 (iX11_door_72 rfl (ix3 25 2 d 1) (by omega) (by decide) ?_)))))
      refine iX11_door_73 (iX11_door_74 rfl rfl (iX11_door_77 (iX11_door_79 rfl rfl (iX11_door_80 (j := 24) rfl rfl (by decide) (by decide) ?_))))
      rw [upN (by omega), upN (by omega), e24]
      refine iX11_door_81 (iX11_door_82 ?_)
      rw [nI_1]
      refine iX11_door_83 (j := 24) rfl rfl (by decide) (by decide) (iX11_door_84 (iX11_door_85 rfl rfl (iX11_door_88 (iX11_door_90 (j := 24) rfl rfl (by decide) (by decide) ?_))))
      rw [upE]
      refine iX11_door_91 (iX11_door_92 ?_)
      rw [nI_pred]
      exact iX11_door_93 fin
    · have he : d = 5 := (nI_eq (b := 5) (by omega) (by omega)).mp g
      refine iX11_door_30 (iX11_door_31 rfl (Nat.le_of_ble_eq_true rfl) (M_isFull ?_))
      exact iX11_door_34 (hf ⟨a, b⟩ he)
  · refine iX11_door_9 (fun h => False.elim (by revert h; decide)) (fun _ => (iX11_door_12 (iX11_door_13 (iX11_door_15 rfl (Nat.le_of_ble_eq_true rfl) (M_isBad ?_)))))
    exact iX11_door_18 (hb a)
theorem M_openDoor (r : Rl c R n d p u k) (hb : ¬ (0 ≤ x ∧ x ≤ nI d - 1) → Q (-2) (mW R T K D (bump s 1))) (hn : ∀ q, q < d → x = nI q → (if bitOn (c.1 5) q then 1 else 0) = y → Q (-3) (mW R T K D (bump s 2))) (ok : ∀ q, q < d → x = nI q → ¬ (if bitOn (c.1 5) q then 1 else 0) = y → Q 1 (mW (upd R (25 + 2 * q + 1) y) T K D s)) : CallI kX11_openDoor [.ref 16, .int x, .int y] (mW R T K D s) Q := by
  refine e_X11_openDoor ?_
  have hd5 := r.ok.2.1.2.1.2
  refine iX11_openDoor_0 (iX11_openDoor_1 (iX11_openDoor_2 rfl (Nat.le_of_ble_eq_true rfl) (M_isDoor r (fun q hq e => ?_) (fun a => ?_))))
  · subst e
    refine iX11_openDoor_5 (fun _ => (iX11_openDoor_15 (iX11_openDoor_16 rfl rfl (iX11_openDoor_19 (iX11_openDoor_21 (iX11_openDoor_22 (iX11_openDoor_23 (iX11_openDoor_24 (iX11_openDoor_25 (iX11_openDoor_26 (iX11_openDoor_27 rfl (ix3 25 2 q 1) (by omega) (by decide) ?_))))))))))) (fun h => False.elim (by revert h; decide))
    rw [r.fl q hq]
    refine iX11_openDoor_28 ?_
    refine iX11_openDoor_29 (fun g => ?_) (fun g => ?_)
    · have fin := ok q hq rfl g
      refine iX11_openDoor_37 (iX11_openDoor_38 rfl rfl (iX11_openDoor_41 (iX11_openDoor_43 (iX11_openDoor_44 (iX11_openDoor_45 (iX11_openDoor_46 (iX11_openDoor_47 (iX11_openDoor_48 (iX11_openDoor_49 (iX11_openDoor_50 rfl (ix3 25 2 q 1) (by omega) (by decide) (iX11_openDoor_51 ?_)))))))))))
      exact iX11_openDoor_52 fin
    · have fin := hn q hq rfl g
      refine iX11_openDoor_32 (iX11_openDoor_33 rfl (Nat.le_of_ble_eq_true rfl) (M_isNo ?_))
      exact iX11_openDoor_36 fin
  · refine iX11_openDoor_5 (fun h => False.elim (by revert h; decide)) (fun _ => (iX11_openDoor_8 (iX11_openDoor_9 (iX11_openDoor_11 rfl (Nat.le_of_ble_eq_true rfl) (M_isBad ?_)))))
    exact iX11_openDoor_14 (hb a)
theorem N_open (hy : y = 0 ∨ y = 1) (h : CallI kX11_openDoor [.ref 16, .int x, .int y] (mW R T K D s) Q) : CallI kX11_open [.ref 16, .int x, .int y] (mW R T K D s) Q := by
  refine e_X11_open ?_
  refine iX11_open_0 (iX11_open_1 (iX11_open_2 ?_))
  rcases hy with e | e
  · subst e
    refine iX11_open_3 (fun _ => iX11_open_10 (iX11_open_11 rfl (Nat.le_of_ble_eq_true rfl) (Call.imp h (fun v w hq => ?_)))) (fun h => absurd rfl h)
    obtain ⟨v', e, hq⟩ := hq
    exact ⟨v', e, iX11_open_14 hq⟩
  · subst e
    refine iX11_open_3 (fun h => absurd h (by decide)) (fun _ => iX11_open_6 (iX11_open_7 (iX11_open_11 rfl (Nat.le_of_ble_eq_true rfl) (Call.imp h (fun v w hq => ?_)))))
    obtain ⟨v', e, hq⟩ := hq
    exact ⟨v', e, iX11_open_14 hq⟩
end Do
