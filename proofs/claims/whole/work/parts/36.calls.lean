def cntd (rf : Nat → Int32) (a : Int32) : Nat → Int32 := if a = -2 then upd rf 0 (rf 0 + 1) else if a = -3 then upd rf 1 (rf 1 + 1) else if a = -4 then upd rf 2 (rf 2 + 1) else rf
theorem va_upC {α : Type} (C : Nat → α) (i : Nat) : va_up C i (C i) = C := by
  funext j
  unfold va_up
  by_cases h : j = i
  · rw [if_pos h, h]
  · rw [if_neg h]
/-- the rows that tell something stay -/
def FEq (F G : Nat → Nat → Int32) : Prop := ∀ j, (j < 4 ∨ j = 8) → G j = F j
theorem FEq.of (F : Nat → Nat → Int32) (br bh g1 g2 : Nat → Int32) : FEq F (va_up (va_up (va_up (va_up F 4 br) 5 bh) 6 g1) 7 g2) := by
  intro j hj
  simp only [va_up]
  rw [if_neg (by omega), if_neg (by omega), if_neg (by omega), if_neg (by omega)]
theorem FEq.rfl' (F : Nat → Nat → Int32) : FEq F F := fun _ _ => rfl
abbrev badF (F : Nat → Nat → Int32) : Nat → Nat → Int32 := va_up F 8 (cntd (F 8) (-2))
section Calls
variable {C : Nat → Ch} {F : Nat → Nat → Int32} {n d p u k l : Nat} {x y z t : Int32} {Q : Int32 → Wd → Prop}
theorem S_counted (h : Q x (hW C (va_up F 8 (cntd (F 8) x)))) : CallI kX10_counted [.ref 16, .int x] (hW C F) Q := by
  refine e_X10_counted ?_
  unfold cntd at h
  refine iX10_counted_0 (iX10_counted_1 ?_)
  refine iX10_counted_3 (fun g => ?_) (fun g => ?_)
  · rw [if_neg g] at h
    refine iX10_counted_19 (iX10_counted_20 ?_)
    refine iX10_counted_22 (fun g2 => ?_) (fun g2 => ?_)
    · rw [if_neg g2] at h
      refine iX10_counted_38 (iX10_counted_39 ?_)
      refine iX10_counted_41 (fun g3 => ?_) (fun g3 => ?_)
      · rw [if_neg g3, va_upC] at h
        refine iX10_counted_54 ?_
        exact iX10_counted_55 h
      · rw [if_pos g3] at h
        refine iX10_counted_44 (iX10_counted_45 rfl rfl (iX10_counted_48 (iX10_counted_49 rfl rfl (iX10_counted_50 (j := 2) rfl rfl (by decide) (by decide) (iX10_counted_51 (iX10_counted_52 (iX10_counted_53 (j := 2) rfl rfl (by decide) (by decide) (iX10_counted_54 ?_))))))))
        exact iX10_counted_55 h
    · rw [if_pos g2] at h
      refine iX10_counted_25 (iX10_counted_26 rfl rfl (iX10_counted_29 (iX10_counted_30 rfl rfl (iX10_counted_31 (j := 1) rfl rfl (by decide) (by decide) (iX10_counted_32 (iX10_counted_33 (iX10_counted_34 (j := 1) rfl rfl (by decide) (by decide) (iX10_counted_35 (iX10_counted_54 ?_)))))))))
      exact iX10_counted_55 h
  · rw [if_pos g] at h
    refine iX10_counted_6 (iX10_counted_7 rfl rfl (iX10_counted_10 (iX10_counted_11 rfl rfl (iX10_counted_12 (j := 0) rfl rfl (by decide) (by decide) (iX10_counted_13 (iX10_counted_14 (iX10_counted_15 (j := 0) rfl rfl (by decide) (by decide) (iX10_counted_16 (iX10_counted_54 ?_)))))))))
    exact iX10_counted_55 h
theorem S_badAsTen (h : Q (-10) (hW C (badF F))) : CallI kX10_badAsTen [.ref 16] (hW C F) Q := by
  refine e_X10_badAsTen ?_
  refine iX10_badAsTen_0 (iX10_badAsTen_1 rfl rfl (iX10_badAsTen_4 (iX10_badAsTen_5 rfl rfl (iX10_badAsTen_6 (j := 0) rfl rfl (by decide) (by decide) (iX10_badAsTen_7 (iX10_badAsTen_8 (iX10_badAsTen_9 (j := 0) rfl rfl (by decide) (by decide) (iX10_badAsTen_10 ?_))))))))
  exact iX10_badAsTen_12 h
theorem H_candle (h : Q (fCandle (C 0) x).1 (hW (va_up C 0 (fCandle (C 0) x).2) (va_up F 8 (cntd (F 8) (fCandle (C 0) x).1)))) : CallI kX10_candle [.ref 16, .int x] (hW C F) Q := by
  refine e_X10_candle ?_
  refine iX10_candle_0 (iX10_candle_1 (iX10_candle_2 rfl rfl (iX10_candle_5 ?_)))
  refine iX10_candle_6F plMC (chW (C 0)) [.ref 16, .int x] (pt_plMC C F) (by decide) rfl rfl (Nat.le_of_ble_eq_true rfl) (F_candle ?_)
  change V kX10_candle 9 _ _ (wr (rn plMC 92) _ plMC _) 0 0 _
  rw [wr_plMC]
  refine iX10_candle_9 rfl (Nat.le_of_ble_eq_true rfl) (S_counted ?_)
  exact iX10_candle_12 h
theorem H_thick (hc : COk (C 0) n d p u k) (h : Q (fThick (C 0) x y).1 (hW (va_up C 0 (fThick (C 0) x y).2) (va_up F 8 (cntd (F 8) (fThick (C 0) x y).1)))) : CallI kX10_thick [.ref 16, .int x, .int y] (hW C F) Q := by
  refine e_X10_thick ?_
  refine iX10_thick_0 (iX10_thick_1 (iX10_thick_2 rfl rfl (iX10_thick_5 (iX10_thick_6 ?_))))
  refine iX10_thick_7F plMC (chW (C 0)) [.ref 16, .int x, .int y] (pt_plMC C F) (by decide) rfl rfl (Nat.le_of_ble_eq_true rfl) (F_thick hc ?_)
  change V kX10_thick 10 _ _ (wr (rn plMC 92) _ plMC _) 0 0 _
  rw [wr_plMC]
  refine iX10_thick_10 rfl (Nat.le_of_ble_eq_true rfl) (S_counted ?_)
  exact iX10_thick_13 h
theorem H_door (hc : COk (C 0) n d p u k) (h : Q (fDoor (C 0) x).1 (hW (va_up C 0 (fDoor (C 0) x).2) (va_up F 8 (cntd (F 8) (fDoor (C 0) x).1)))) : CallI kX10_door [.ref 16, .int x] (hW C F) Q := by
  refine e_X10_door ?_
  refine iX10_door_0 (iX10_door_1 (iX10_door_2 rfl rfl (iX10_door_5 ?_)))
  refine iX10_door_6F plMC (chW (C 0)) [.ref 16, .int x] (pt_plMC C F) (by decide) rfl rfl (Nat.le_of_ble_eq_true rfl) (F_door hc ?_)
  change V kX10_door 9 _ _ (wr (rn plMC 92) _ plMC _) 0 0 _
  rw [wr_plMC]
  refine iX10_door_9 rfl (Nat.le_of_ble_eq_true rfl) (S_counted ?_)
  exact iX10_door_12 h
theorem H_open (hc : COk (C 0) n d p u k) (hy : y = 0 ∨ y = 1) (h : Q (fOpen (C 0) x y).1 (hW (va_up C 0 (fOpen (C 0) x y).2) (va_up F 8 (cntd (F 8) (fOpen (C 0) x y).1)))) : CallI kX10_open [.ref 16, .int x, .int y] (hW C F) Q := by
  refine e_X10_open ?_
  refine iX10_open_0 (iX10_open_1 (iX10_open_2 rfl rfl (iX10_open_5 (iX10_open_6 ?_))))
  refine iX10_open_7F plMC (chW (C 0)) [.ref 16, .int x, .int y] (pt_plMC C F) (by decide) rfl rfl (Nat.le_of_ble_eq_true rfl) (F_open hc hy ?_)
  change V kX10_open 10 _ _ (wr (rn plMC 92) _ plMC _) 0 0 _
  rw [wr_plMC]
  refine iX10_open_10 rfl (Nat.le_of_ble_eq_true rfl) (S_counted ?_)
  exact iX10_open_13 h
theorem H_pin (hc : COk (C 0) n d p u k) (h : Q (fPin (C 0) x y).1 (hW (va_up C 0 (fPin (C 0) x y).2) (va_up F 8 (cntd (F 8) (fPin (C 0) x y).1)))) : CallI kX10_pin [.ref 16, .int x, .int y] (hW C F) Q := by
  refine e_X10_pin ?_
  refine iX10_pin_0 (iX10_pin_1 (iX10_pin_2 rfl rfl (iX10_pin_5 (iX10_pin_6 ?_))))
  refine iX10_pin_7F plMC (chW (C 0)) [.ref 16, .int x, .int y] (pt_plMC C F) (by decide) rfl rfl (Nat.le_of_ble_eq_true rfl) (F_pin hc ?_)
  change V kX10_pin 10 _ _ (wr (rn plMC 92) _ plMC _) 0 0 _
  rw [wr_plMC]
  refine iX10_pin_10 rfl (Nat.le_of_ble_eq_true rfl) (S_counted ?_)
  exact iX10_pin_13 h
theorem H_undo (hc : COk (C 0) n d p u k) (h : Q (fBack (C 0)).1 (hW (va_up C 0 (fBack (C 0)).2) (va_up F 8 (cntd (F 8) (fBack (C 0)).1)))) : CallI kX10_undo [.ref 16] (hW C F) Q := by
  refine e_X10_undo ?_
  refine iX10_undo_0 (iX10_undo_1 (iX10_undo_2 rfl rfl ?_))
  refine iX10_undo_5F plMC (chW (C 0)) [.ref 16] (pt_plMC C F) (by decide) rfl rfl (Nat.le_of_ble_eq_true rfl) (F_back hc ?_)
  change V kX10_undo 8 _ _ (wr (rn plMC 92) _ plMC _) 0 0 _
  rw [wr_plMC]
  refine iX10_undo_8 rfl (Nat.le_of_ble_eq_true rfl) (S_counted ?_)
  exact iX10_undo_11 h
theorem hW_of {C C2 : Nat → Ch} {F : Nat → Nat → Int32} (h : ∀ i, i < 4 → chW (C i) = chW (C2 i)) : hW C F = hW C2 F := by
  unfold hW
  rw [h 0 (by decide), h 1 (by decide), h 2 (by decide), h 3 (by decide)]
theorem hW_up0 {C : Nat → Ch} {F : Nat → Nat → Int32} {c e : Ch} (h : chW c = chW e) : hW (va_up C 0 c) F = hW (va_up C 0 e) F := hW_of (fun i hi => by
  match i, hi with
  | 0, _ => exact h
  | 1, _ => rfl
  | 2, _ => rfl
  | 3, _ => rfl
  | i + 4, hi => exact absurd hi (by omega))
theorem H_member (hc : COk (C 0) n d p u k) (h : Q (fMember (C 0) x y z t).1 (hW (va_up C 0 (fMember (C 0) x y z t).2) (va_up F 8 (cntd (F 8) (fMember (C 0) x y z t).1)))) : CallI kX10_member [.ref 16, .int x, .int y, .int z, .int t] (hW C F) Q := by
  refine e_X10_member ?_
  refine iX10_member_0 (iX10_member_1 (iX10_member_2 rfl rfl (iX10_member_5 rfl rfl (iX10_member_8 (iX10_member_9 (iX10_member_10 (iX10_member_11 ?_)))))))
  refine iX10_member_13F plMB (bnW ((C 0).1 8) (C 0).2) [.ref 16, .int x, .int y, .int z, .int t] (pt_plMB C F) (by decide) rfl rfl (Nat.le_of_ble_eq_true rfl) (B_member hc ?_)
  change V kX10_member 16 _ _ (wr (rn plMB 92) _ plMB _) 0 0 _
  rw [wr_plMB, hW_up0 (chW_member (C 0) _ _ _ _)]
  refine iX10_member_16 rfl (Nat.le_of_ble_eq_true rfl) (S_counted ?_)
  exact iX10_member_19 h
noncomputable def fDrop (c : Ch) (x : Int32) : Int32 × Ch := if x = 0 then fDropP c else if x = 1 then fDropM c else (-2, c)
theorem H_drop (h : Q (fDrop (C 0) x).1 (hW (va_up C 0 (fDrop (C 0) x).2) (va_up F 8 (cntd (F 8) (fDrop (C 0) x).1)))) : CallI kX10_drop [.ref 16, .int x] (hW C F) Q := by
  refine e_X10_drop ?_
  unfold fDrop at h
  refine iX10_drop_0 ?_
  refine iX10_drop_1 (fun g => ?_) (fun g => ?_)
  · rw [if_neg g] at h
    refine iX10_drop_16 (iX10_drop_17 (iX10_drop_18 ?_))
    refine iX10_drop_19 (fun g2 => ?_) (fun g2 => ?_)
    · rw [if_neg g2, va_upC] at h
      refine iX10_drop_35 (iX10_drop_37 rfl (Nat.le_of_ble_eq_true rfl) (S_counted ?_))
      exact iX10_drop_40 h
    · rw [if_pos g2] at h
      refine iX10_drop_22 (iX10_drop_23 rfl rfl (iX10_drop_26 rfl rfl ?_))
      refine iX10_drop_29F plMB (bnW ((C 0).1 8) (C 0).2) [.ref 16] (pt_plMB C F) (by decide) rfl rfl (Nat.le_of_ble_eq_true rfl) (B_dropM ?_)
      change V kX10_drop 32 _ _ (wr (rn plMB 92) _ plMB _) 0 0 _
      rw [wr_plMB, hW_up0 (chW_dropM (C 0))]
      refine iX10_drop_32 (iX10_drop_37 rfl (Nat.le_of_ble_eq_true rfl) (S_counted ?_))
      exact iX10_drop_40 h
  · rw [if_pos g] at h
    refine iX10_drop_4 (iX10_drop_5 (iX10_drop_6 rfl rfl ?_))
    refine iX10_drop_9F plMC (chW (C 0)) [.ref 16] (pt_plMC C F) (by decide) rfl rfl (Nat.le_of_ble_eq_true rfl) (F_dropP ?_)
    change V kX10_drop 12 _ _ (wr (rn plMC 92) _ plMC _) 0 0 _
    rw [wr_plMC]
    refine iX10_drop_12 rfl (Nat.le_of_ble_eq_true rfl) (S_counted ?_)
    exact iX10_drop_15 h
/-! text -/
theorem va_up3 (F : Nat → Nat → Int32) : va_up (va_up (va_up F 1 (F 1)) 2 (F 2)) 3 (F 3) = F := by
  have e1 : va_up F 1 (F 1) = F := va_upC F 1
  rw [e1, va_upC F 2, va_upC F 3]
theorem H_type (hl : F 1 0 = nI l) (hl2 : l ≤ 150) (hb : ¬ (0 ≤ x ∧ x ≤ 127) → Q (-2) (hW C (badF F))) (hf : 0 ≤ x → x ≤ 127 → l = 150 → Q (-4) (hW C (va_up F 8 (cntd (F 8) (-4))))) (ok : 0 ≤ x → x ≤ 127 → l < 150 → Q (nI (l + 1)) (hW C (va_up (va_up (va_up F 1 (upd (F 1) 0 (nI (l + 1)))) 2 (upd (F 2) l (vp_nar .byte x.toInt8.toInt32))) 3 (F 3)))) : CallI kX10_type [.ref 16, .int x] (hW C F) Q := by
  refine e_X10_type ?_
  refine iX10_type_0 (iX10_type_1 (iX10_type_2 rfl rfl (iX10_type_5 ?_)))
  refine iX10_type_6F plMS (ssW (F 1) (F 2) (F 3)) [.ref 16, .int x] (pt_plMS C F) (by decide) rfl rfl (Nat.le_of_ble_eq_true rfl) (S_append hl hl2 (fun a => ?_) (fun a b e => ?_) (fun a b e => ?_))
  · change V kX10_type 9 _ _ (wr (rn plMS 92) _ plMS _) 0 0 _
    rw [wr_plMS, va_up3]
    refine iX10_type_9 rfl (Nat.le_of_ble_eq_true rfl) (S_counted ?_)
    exact iX10_type_12 (hb a)
  · change V kX10_type 9 _ _ (wr (rn plMS 92) _ plMS _) 0 0 _
    rw [wr_plMS, va_up3]
    refine iX10_type_9 rfl (Nat.le_of_ble_eq_true rfl) (S_counted ?_)
    exact iX10_type_12 (hf a b e)
  · change V kX10_type 9 _ _ (wr (rn plMS 92) _ plMS _) 0 0 _
    rw [wr_plMS]
    have hp : 0 ≤ nI (l + 1) := nI_pos' (by omega)
    have n2 : ¬ nI (l + 1) = -2 := fun z => by rw [z] at hp; exact absurd hp (by decide)
    have n3 : ¬ nI (l + 1) = -3 := fun z => by rw [z] at hp; exact absurd hp (by decide)
    have n4 : ¬ nI (l + 1) = -4 := fun z => by rw [z] at hp; exact absurd hp (by decide)
    refine iX10_type_9 rfl (Nat.le_of_ble_eq_true rfl) (S_counted ?_)
    unfold cntd
    rw [if_neg n2, if_neg n3, if_neg n4, va_upC]
    exact iX10_type_12 (ok a b e)
theorem H_clear (h : Q (F 1 0) (hW C (va_up (va_up (va_up F 1 (upd (F 1) 0 0)) 2 (F 2)) 3 (F 3)))) : CallI kX10_clear [.ref 16] (hW C F) Q := by
  refine e_X10_clear ?_
  refine iX10_clear_0 (iX10_clear_1 rfl rfl ?_)
  refine iX10_clear_4F plMS (ssW (F 1) (F 2) (F 3)) [.ref 16] (pt_plMS C F) (by decide) rfl rfl (Nat.le_of_ble_eq_true rfl) (S_empty ?_)
  change V kX10_clear 7 _ _ (wr (rn plMS 92) _ plMS _) 0 0 _
  rw [wr_plMS]
  exact iX10_clear_7 h
/-- read: the answer, and the chamber, if it is read -/
theorem H_read (hl : F 1 0 = nI l) (hl2 : l ≤ 150) (h0 : (tlT (F 2) l 151 0 0 (-1) (F 3) (C 1)).1 ≤ 0 → ∀ S2 nm2, S2 0 = nI l → Q (tlT (F 2) l 151 0 0 (-1) (F 3) (C 1)).1 (hW (va_up C 1 (tlT (F 2) l 151 0 0 (-1) (F 3) (C 1)).2) (va_up (va_up (va_up F 1 S2) 2 (F 2)) 3 nm2))) (h1 : ¬ (tlT (F 2) l 151 0 0 (-1) (F 3) (C 1)).1 ≤ 0 → ∀ S2 nm2, S2 0 = nI l → Q (tlT (F 2) l 151 0 0 (-1) (F 3) (C 1)).1 (hW (va_up (va_up C 0 (lik (C 0) (tlT (F 2) l 151 0 0 (-1) (F 3) (C 1)).2)) 1 (tlT (F 2) l 151 0 0 (-1) (F 3) (C 1)).2) (va_up (va_up (va_up F 1 S2) 2 (F 2)) 3 nm2))) : CallI kX10_read [.ref 16] (hW C F) Q := by
  refine e_X10_read ?_
  refine iX10_read_0 (iX10_read_1 rfl rfl (iX10_read_4 (iX10_read_5 rfl rfl ?_)))
  refine iX10_read_8F (a0 := .ref 37) plMT (scW (F 1) (F 2) (F 3) (C 1)) [.ref 16, .ref 19] (pt_plMT C F) (by decide) rfl rfl (Nat.le_of_ble_eq_true rfl) (S_tellTo hl hl2 (fun S2 nm2 hS => ?_))
  change V kX10_read 11 _ _ (wr (rn plMT 92) _ plMT _) 0 0 _
  rw [wr_plMT]
  generalize tlT (F 2) l 151 0 0 (-1) (F 3) (C 1) = T at h0 h1 ⊢
  generalize hG : va_up (va_up (va_up F 1 S2) 2 (F 2)) 3 nm2 = G
  refine iX10_read_11 rfl (iX10_read_12 ?_)
  refine iX10_read_13 (fun g => ?_) (fun g => ?_)
  · refine iX10_read_27 ?_
    refine iX10_read_28 ?_
    have := h0 g S2 nm2 hS
    rw [hG] at this
    exact this
  · refine iX10_read_16 (iX10_read_17 rfl rfl (iX10_read_20 (iX10_read_21 rfl rfl ?_)))
    refine iX10_read_24F (a0 := .ref 37) plL01 (chW2 (C 0) T.2) [.ref 16, .ref 36] (pt_plL01 (va_up C 1 T.2) G) (by decide) rfl rfl (Nat.le_of_ble_eq_true rfl) (S_cLike ?_)
    change V kX10_read 27 _ _ (wr (rn plL01 92) _ plL01 _) 0 0 _
    rw [wr_plL01]
    have := h1 g S2 nm2 hS
    rw [hG] at this
    refine iX10_read_27 ?_
    refine iX10_read_28 ?_
    have e : hW (va_up (va_up (va_up C 1 T.2) 0 (lik (C 0) T.2)) 1 T.2) G = hW (va_up (va_up C 0 (lik (C 0) T.2)) 1 T.2) G := hW_of (fun i hi => by
      match i, hi with
      | 0, _ => rfl
      | 1, _ => rfl
      | 2, _ => rfl
      | 3, _ => rfl
      | i + 4, hi => exact absurd hi (by omega))
    rw [e]
    exact this
end Calls
