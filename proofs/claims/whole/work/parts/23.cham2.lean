section Cham2
variable {c : Ch} {n s d p u k : Nat} {Q : Int32 → Wd → Prop}
theorem S_makeThick {x y : Int32} (hn : c.1 0 = nI n) (hn2 : n ≤ 20) (hb : ¬ ((0 ≤ x ∧ x ≤ nI n - 1) ∧ (1 ≤ y ∧ y ≤ 9)) → Q (-2) (chW c)) (hno : ∀ s, s < n → x = nI s → 1 ≤ y → y ≤ 9 → l_sum (c.2 0) s < c.1 1 → Q (-3) (chW c)) (ok : ∀ s, s < n → x = nI s → 1 ≤ y → y ≤ 9 → c.1 1 ≤ l_sum (c.2 0) s → Q (c.2 0 s) (chW (c.1, va_up c.2 0 (upd (c.2 0) s y)))) : CallI kX1_makeThick [.ref 16, .int x, .int y] (chW c) Q := by
  refine e_X1_makeThick ?_
  have bad : ¬ ((0 ≤ x ∧ x ≤ nI n - 1) ∧ (1 ≤ y ∧ y ≤ 9)) → V kX1_makeThick 24 [some (.ref 16), some (.int x), some (.int y), none] [] (chW c) 0 0 (qI Q) := by
    intro z
    refine iX1_makeThick_24 ?_
    exact iX1_makeThick_26 (hb z)
  refine iX1_makeThick_0 (iX1_makeThick_1 (iX1_makeThick_2 (iX1_makeThick_3 rfl rfl (iX1_makeThick_6 (iX1_makeThick_7 ?_)))))
  rw [hn]
  refine iX1_makeThick_8 (Nat.le_of_ble_eq_true rfl) (S_within (fun a b => ?_) (fun a => ?_))
  · refine iX1_makeThick_11 (fun h => False.elim (by revert h; decide)) (fun _ => (iX1_makeThick_14 (iX1_makeThick_15 (iX1_makeThick_16 ?_))))
    refine iX1_makeThick_18 (Nat.le_of_ble_eq_true rfl) (S_within (fun a2 b2 => ?_) (fun a2 => ?_))
    · obtain ⟨s, hs, e⟩ := ix_of (by omega) a b
      subst e
      refine iX1_makeThick_21 (fun _ => (iX1_makeThick_27 (iX1_makeThick_28 rfl rfl (iX1_makeThick_31 (iX1_makeThick_32 (iX1_makeThick_33 rfl (Nat.le_of_ble_eq_true rfl) (S_waxAbove hn hn2 (by omega) ?_))))))) (fun h => False.elim (by revert h; decide))
      refine iX1_makeThick_36 (fun g => ?_) (fun g => ?_)
      · refine iX1_makeThick_42 (iX1_makeThick_43 rfl rfl (iX1_makeThick_46 (iX1_makeThick_47 rfl rfl (by omega) (by decide) (iX1_makeThick_48 rfl (iX1_makeThick_49 (iX1_makeThick_50 rfl rfl (iX1_makeThick_53 (iX1_makeThick_54 (iX1_makeThick_55 rfl rfl (by omega) (by decide) (iX1_makeThick_56 ?_))))))))))
        exact iX1_makeThick_57 (ok s hs rfl a2 b2 g)
      · refine iX1_makeThick_39 ?_
        exact iX1_makeThick_41 (hno s hs rfl a2 b2 (i32_nle g))
    · refine iX1_makeThick_21 (fun h => False.elim (by revert h; decide)) (fun _ => ?_)
      exact bad (fun z => a2 z.2)
  · refine iX1_makeThick_11 (fun _ => ?_) (fun h => False.elim (by revert h; decide))
    exact bad (fun z => a z.1)
theorem S_addDoor {x : Int32} (hd : c.1 4 = nI d) (hd2 : d ≤ 5) (hb : ¬ (0 ≤ x ∧ x ≤ 3) → Q (-2) (chW c)) (hf : 0 ≤ x → x ≤ 3 → d = 5 → Q (-4) (chW c)) (ok : 0 ≤ x → x ≤ 3 → d < 5 → Q (nI d) (chW (upd c.1 4 (nI (d + 1)), va_up c.2 1 (upd (c.2 1) d x)))) : CallI kX1_addDoor [.ref 16, .int x] (chW c) Q := by
  refine e_X1_addDoor ?_
  refine iX1_addDoor_0 (iX1_addDoor_1 (iX1_addDoor_2 ?_))
  refine iX1_addDoor_3 (Nat.le_of_ble_eq_true rfl) (S_within (fun a b => ?_) (fun a => ?_))
  · refine iX1_addDoor_6 (fun _ => (iX1_addDoor_12 (iX1_addDoor_13 rfl rfl (iX1_addDoor_16 ?_)))) (fun h => False.elim (by revert h; decide))
    rw [hd]
    refine iX1_addDoor_17 (fun g => ?_) (fun g => ?_)
    · have hlt : d < 5 := (nI_ltI (by omega) (by omega)).mp (show nI d < nI 5 from g)
      refine iX1_addDoor_23 (iX1_addDoor_24 rfl rfl (iX1_addDoor_27 (iX1_addDoor_28 rfl rfl (iX1_addDoor_31 (iX1_addDoor_32 rfl hd (by omega) (by decide) (iX1_addDoor_33 (iX1_addDoor_34 rfl (iX1_addDoor_35 rfl rfl (iX1_addDoor_38 (iX1_addDoor_39 (iX1_addDoor_40 rfl (Nat.le_of_ble_eq_true rfl) ?_)))))))))))
      have e1 : c.1 4 + 1 = nI (d + 1) := by rw [hd, nI_1]
      rw [e1]
      refine iX1_addDoor_43 (iX1_addDoor_44 rfl rfl (iX1_addDoor_47 (iX1_addDoor_48 ?_)))
      rw [show nI (d + 1) - 1 = nI d from nI_pred d]
      exact iX1_addDoor_49 (ok a b hlt)
    · have h5 : d = 5 := by
        rcases Nat.lt_or_ge d 5 with q | q
        · exact absurd (show nI d < nI 5 from nI_lt q (by omega)) g
        · omega
      refine iX1_addDoor_20 ?_
      exact iX1_addDoor_22 (hf a b h5)
  · refine iX1_addDoor_6 (fun h => False.elim (by revert h; decide)) (fun _ => (iX1_addDoor_9 ?_))
    exact iX1_addDoor_11 (hb a)
theorem S_turnDoor {x is : Int32} (hd : c.1 4 = nI d) (hd2 : d ≤ 5) (his : is = 0 ∨ is = 1) (hb : ¬ (0 ≤ x ∧ x ≤ nI d - 1) → Q (-2) (chW c)) (hno : ∀ i, i < d → x = nI i → (bitOn (c.1 5) i ↔ is = 1) → Q (-3) (chW c)) (ok : ∀ i, i < d → x = nI i → ¬ (bitOn (c.1 5) i ↔ is = 1) → Q 1 (chW (upd c.1 5 (c.1 5 ^^^ (1 <<< (nI i &&& 31))), c.2))) : CallI kX1_turnDoor [.ref 16, .int x, .int is] (chW c) Q := by
  refine e_X1_turnDoor ?_
  refine iX1_turnDoor_0 (iX1_turnDoor_1 ?_)
  refine iX1_turnDoor_2 rfl (Nat.le_of_ble_eq_true rfl) (S_hasDoor hd hd2 (fun i hi e => ?_) (fun a => ?_))
  · subst e
    refine iX1_turnDoor_5 (fun _ => (iX1_turnDoor_11 (iX1_turnDoor_12 ?_))) (fun h => False.elim (by revert h; decide))
    refine iX1_turnDoor_13 rfl (Nat.le_of_ble_eq_true rfl) (S_isOpen (fun b => ?_) (fun b => ?_))
    · refine iX1_turnDoor_16 ?_
      refine iX1_turnDoor_17 (fun g => ?_) (fun g => ?_)
      · refine iX1_turnDoor_23 (iX1_turnDoor_24 rfl (iX1_turnDoor_25 rfl rfl (iX1_turnDoor_28 (iX1_turnDoor_29 (iX1_turnDoor_30 (iX1_turnDoor_31 (iX1_turnDoor_32 rfl (Nat.le_of_ble_eq_true rfl) (iX1_turnDoor_35 ?_))))))))
        exact iX1_turnDoor_36 (ok i hi rfl (fun z => g (z.mp b).symm))
      · refine iX1_turnDoor_20 ?_
        exact iX1_turnDoor_22 (hno i hi rfl ⟨fun _ => g.symm, fun _ => b⟩)
    · refine iX1_turnDoor_16 ?_
      refine iX1_turnDoor_17 (fun g => ?_) (fun g => ?_)
      · have h1 : is = 1 := by
          rcases his with z | z
          · exact absurd z.symm g
          · exact z
        refine iX1_turnDoor_23 (iX1_turnDoor_24 rfl (iX1_turnDoor_25 rfl rfl (iX1_turnDoor_28 (iX1_turnDoor_29 (iX1_turnDoor_30 (iX1_turnDoor_31 (iX1_turnDoor_32 rfl (Nat.le_of_ble_eq_true rfl) (iX1_turnDoor_35 ?_))))))))
        exact iX1_turnDoor_36 (ok i hi rfl (fun z => b (z.mpr h1)))
      · refine iX1_turnDoor_20 ?_
        exact iX1_turnDoor_22 (hno i hi rfl ⟨fun z => absurd z b, fun z => by rw [← g] at z; exact absurd z (by decide)⟩)
  · refine iX1_turnDoor_5 (fun h => False.elim (by revert h; decide)) (fun _ => (iX1_turnDoor_8 ?_))
    exact iX1_turnDoor_10 (hb a)
def pinA (a : Nat → Nat → Int32) (p : Nat) (x y z : Int32) : Nat → Nat → Int32 := va_up (va_up (va_up a 2 (upd (a 2) p x)) 3 (upd (a 3) p y)) 4 (upd (a 4) p z)
theorem S_addPin {x y : Int32} (hn : c.1 0 = nI n) (hn2 : n ≤ 20) (hp : c.1 6 = nI p) (hp2 : p ≤ 9) (hb : ¬ ((0 ≤ x ∧ x ≤ 2) ∧ (0 ≤ y ∧ y ≤ nI n - 1)) → Q (-2) (chW c)) (hno : ∀ s, s < n → y = nI s → 0 ≤ x → x ≤ 2 → past c s → Q (-3) (chW c)) (hf : ∀ s, s < n → y = nI s → 0 ≤ x → x ≤ 2 → ¬ past c s → p = 9 → Q (-4) (chW c)) (ok : ∀ s, s < n → y = nI s → 0 ≤ x → x ≤ 2 → ¬ past c s → p < 9 → Q (nI p) (chW (upd c.1 6 (nI (p + 1)), pinA c.2 p x y (-1)))) : CallI kX1_addPin [.ref 16, .int x, .int y] (chW c) Q := by
  refine e_X1_addPin ?_
  have bad : ¬ ((0 ≤ x ∧ x ≤ 2) ∧ (0 ≤ y ∧ y ≤ nI n - 1)) → V kX1_addPin 21 [some (.ref 16), some (.int x), some (.int y)] [] (chW c) 0 0 (qI Q) := by
    intro z
    refine iX1_addPin_21 ?_
    exact iX1_addPin_23 (hb z)
  refine iX1_addPin_0 ?_
  refine iX1_addPin_1 (Nat.le_of_ble_eq_true rfl) (S_isParty (fun a b => ?_) (fun a => ?_))
  · refine iX1_addPin_4 (fun h => False.elim (by revert h; decide)) (fun _ => (iX1_addPin_7 (iX1_addPin_8 (iX1_addPin_9 (iX1_addPin_10 rfl rfl (iX1_addPin_13 (iX1_addPin_14 ?_)))))))
    rw [hn]
    refine iX1_addPin_15 (Nat.le_of_ble_eq_true rfl) (S_within (fun a2 b2 => ?_) (fun a2 => ?_))
    · obtain ⟨s, hs, e⟩ := ix_of (by omega) a2 b2
      subst e
      refine iX1_addPin_18 (fun _ => (iX1_addPin_24 (iX1_addPin_25 ?_))) (fun h => False.elim (by revert h; decide))
      refine iX1_addPin_26 rfl (Nat.le_of_ble_eq_true rfl) (S_isPast hn hn2 (by omega) (fun q => ?_) (fun q => ?_))
      · refine iX1_addPin_29 (fun h => False.elim (by revert h; decide)) (fun _ => (iX1_addPin_32 ?_))
        exact iX1_addPin_34 (hno s hs rfl a b q)
      · refine iX1_addPin_29 (fun _ => (iX1_addPin_35 (iX1_addPin_36 rfl rfl (iX1_addPin_39 ?_)))) (fun h => False.elim (by revert h; decide))
        rw [hp]
        refine iX1_addPin_41 (fun g => ?_) (fun g => ?_)
        · have hlt : p < 9 := (nI_ltI (by omega) (by omega)).mp (show nI p < nI 9 from g)
          refine iX1_addPin_47 (iX1_addPin_48 rfl rfl (iX1_addPin_51 (iX1_addPin_52 rfl rfl (iX1_addPin_55 (iX1_addPin_56 rfl hp (by omega) (by decide) (iX1_addPin_57 (iX1_addPin_58 rfl rfl (iX1_addPin_61 (iX1_addPin_62 rfl rfl (iX1_addPin_65 (iX1_addPin_66 rfl hp (by omega) (by decide) (iX1_addPin_67 (iX1_addPin_68 rfl rfl (iX1_addPin_71 (iX1_addPin_72 rfl rfl (iX1_addPin_75 (iX1_addPin_76 rfl hp (by omega) (by decide) (iX1_addPin_77 (iX1_addPin_78 rfl (iX1_addPin_79 rfl rfl (iX1_addPin_82 (iX1_addPin_83 (iX1_addPin_84 rfl (Nat.le_of_ble_eq_true rfl) ?_)))))))))))))))))))))))
          have e1 : c.1 6 + 1 = nI (p + 1) := by rw [hp, nI_1]
          rw [e1]
          refine iX1_addPin_87 (iX1_addPin_88 rfl rfl (iX1_addPin_91 (iX1_addPin_92 ?_)))
          rw [show nI (p + 1) - 1 = nI p from nI_pred p]
          exact iX1_addPin_93 (ok s hs rfl a b q hlt)
        · have h9 : p = 9 := by
            rcases Nat.lt_or_ge p 9 with q2 | q2
            · exact absurd (show nI p < nI 9 from nI_lt q2 (by omega)) g
            · omega
          refine iX1_addPin_44 ?_
          exact iX1_addPin_46 (hf s hs rfl a b q h9)
    · refine iX1_addPin_18 (fun h => False.elim (by revert h; decide)) (fun _ => ?_)
      exact bad (fun z => a2 z.2)
  · refine iX1_addPin_4 (fun _ => ?_) (fun h => False.elim (by revert h; decide))
    exact bad (fun z => a z.1)
theorem S_dropPin (h0 : c.1 6 = 0 → Q (-3) (chW c)) (h1 : ¬ c.1 6 = 0 → Q (c.1 6 - 1) (chW (upd c.1 6 (c.1 6 - 1), c.2))) : CallI kX1_dropPin [.ref 16] (chW c) Q := by
  refine e_X1_dropPin ?_
  refine iX1_dropPin_0 (iX1_dropPin_1 rfl rfl ?_)
  refine iX1_dropPin_4 (fun g => ?_) (fun g => ?_)
  · refine iX1_dropPin_10 (iX1_dropPin_11 rfl (iX1_dropPin_12 rfl rfl (iX1_dropPin_15 (iX1_dropPin_16 (iX1_dropPin_17 rfl (Nat.le_of_ble_eq_true rfl) (iX1_dropPin_20 (iX1_dropPin_21 rfl rfl ?_)))))))
    exact iX1_dropPin_24 (h1 g)
  · refine iX1_dropPin_7 ?_
    exact iX1_dropPin_9 (h0 g)
theorem S_tellFall {i : Nat} {y : Int32} (hi : i < 9) (h : Q (c.2 4 i) (chW (c.1, va_up c.2 4 (upd (c.2 4) i y)))) : CallI kX1_tellFall [.ref 16, .int (nI i), .int y] (chW c) Q := by
  refine e_X1_tellFall ?_
  refine iX1_tellFall_0 (iX1_tellFall_1 rfl rfl (iX1_tellFall_4 (iX1_tellFall_5 rfl rfl (by omega) (by decide) (iX1_tellFall_6 rfl (iX1_tellFall_7 (iX1_tellFall_8 rfl rfl (iX1_tellFall_11 (iX1_tellFall_12 (iX1_tellFall_13 rfl rfl (by omega) (by decide) (iX1_tellFall_14 ?_))))))))))
  exact iX1_tellFall_15 h
/-! minutes -/
def fgA (a : Nat → Nat → Int32) : Nat → Nat → Int32 := va_up (va_up a 5 (va_cpy (a 5) (a 5) 1 0 11)) 6 (va_cpy (a 6) (a 6) 1 0 11)
theorem S_forgetOldest {Q : Wd → Prop} (h : Q (chW (upd c.1 7 (c.1 7 - 1), fgA c.2))) : CallV kX1_forgetOldest [.ref 16] (chW c) Q := by
  refine e_X1_forgetOldest ?_
  refine iX1_forgetOldest_0 (iX1_forgetOldest_1 rfl rfl (iX1_forgetOldest_4 (iX1_forgetOldest_5 (iX1_forgetOldest_6 rfl rfl (iX1_forgetOldest_9 (iX1_forgetOldest_10 (iX1_forgetOldest_12 (a := 1) (b := 0) (c := 11) rfl rfl rfl rfl rfl (by decide) (by decide) (by decide) (by decide) (by decide) (Nat.le_of_ble_eq_true rfl) (iX1_forgetOldest_15 (iX1_forgetOldest_16 rfl rfl (iX1_forgetOldest_19 (iX1_forgetOldest_20 (iX1_forgetOldest_21 rfl rfl (iX1_forgetOldest_24 (iX1_forgetOldest_25 (iX1_forgetOldest_27 (a := 1) (b := 0) (c := 11) rfl rfl rfl rfl rfl (by decide) (by decide) (by decide) (by decide) (by decide) (Nat.le_of_ble_eq_true rfl) (iX1_forgetOldest_30 (iX1_forgetOldest_31 rfl (iX1_forgetOldest_32 rfl rfl (iX1_forgetOldest_35 (iX1_forgetOldest_36 (iX1_forgetOldest_37 rfl (Nat.le_of_ble_eq_true rfl) ?_)))))))))))))))))))))
  exact iX1_forgetOldest_40 h
/-- what goes in a minute -/
noncomputable def cGo (c : Ch) (n d k : Nat) : Int32 := if l_sum (c.2 0) n - c.1 1 < cFl c d k (c.1 3) then l_sum (c.2 0) n - c.1 1 else cFl c d k (c.1 3)
def drip (g : Int32) : Int32 := if g ≤ 3 then 0 else (g - 3) / 2
/-- one minute, with room for it among those that may be undone -/
noncomputable def cMin (c : Ch) (n d u k : Nat) : Ch := (upd (upd (upd (upd c.1 7 (nI (u + 1))) 1 (c.1 1 + cGo c n d k)) 2 (c.1 2 + drip (cGo c n d k))) 3 (c.1 3 + 1), va_up (va_up c.2 5 (upd (c.2 5) u (c.1 1))) 6 (upd (c.2 6) u (c.1 2)))
def c11 (c : Ch) : Ch := (upd c.1 7 (nI 11), fgA c.2)
theorem S_pass1 {Q : Wd → Prop} (hn : c.1 0 = nI n) (hn2 : n ≤ 20) (hd : c.1 4 = nI d) (hd2 : d ≤ 5) (hu : c.1 7 = nI u) (hu2 : u < 12) (hk : c.1 8 = nI k) (hk2 : kOk c.2 k) (h : Q (chW (cMin c n d u k))) : V kX1_passMinute 13 [some (.ref 16), none] [] (chW c) 0 0 (qV Q) := by
  have e1 : c.1 7 + 1 = nI (u + 1) := by rw [hu, nI_1]
  refine iX1_passMinute_13 (iX1_passMinute_14 rfl rfl (iX1_passMinute_17 (iX1_passMinute_18 rfl rfl (iX1_passMinute_21 (iX1_passMinute_22 rfl rfl (iX1_passMinute_25 rfl hu (by omega) (by decide) (iX1_passMinute_26 (iX1_passMinute_27 rfl rfl (iX1_passMinute_30 (iX1_passMinute_31 rfl rfl (iX1_passMinute_34 (iX1_passMinute_35 rfl rfl (iX1_passMinute_38 rfl hu (by omega) (by decide) (iX1_passMinute_39 (iX1_passMinute_40 rfl (iX1_passMinute_41 rfl rfl (iX1_passMinute_44 (iX1_passMinute_45 ?_))))))))))))))))))
  rw [e1]
  refine iX1_passMinute_46 rfl (Nat.le_of_ble_eq_true rfl) ?_
  generalize hc2 : ((upd c.1 7 (nI (u + 1)), va_up (va_up c.2 5 (upd (c.2 5) u (c.1 1))) 6 (upd (c.2 6) u (c.1 2))) : Ch) = c2
  have hw : V kX1_passMinute 49 [some (.ref 16), none] [] (chW c2) 0 0 (qV Q) := by
    have f0 : c2.1 0 = nI n := by rw [← hc2]; exact hn
    have f4 : c2.1 4 = nI d := by rw [← hc2]; exact hd
    have f8 : c2.1 8 = nI k := by rw [← hc2]; exact hk
    have fk : kOk c2.2 k := by rw [← hc2]; exact hk2
    have g1 : c2.1 1 = c.1 1 := by rw [← hc2]; rfl
    have g2 : c2.1 2 = c.1 2 := by rw [← hc2]; rfl
    have g3 : c2.1 3 = c.1 3 := by rw [← hc2]; rfl
    have gF : cFl c2 d k (c2.1 3) = cFl c d k (c.1 3) := by rw [← hc2]; rfl
    have gW : l_sum (c2.2 0) n = l_sum (c.2 0) n := by rw [← hc2]; rfl
    refine iX1_passMinute_49 (iX1_passMinute_50 (iX1_passMinute_51 rfl rfl (iX1_passMinute_54 rfl (Nat.le_of_ble_eq_true rfl) (S_flame f4 hd2 f8 fk (iX1_passMinute_57 (iX1_passMinute_58 rfl (Nat.le_of_ble_eq_true rfl) (S_allWax f0 hn2 (iX1_passMinute_61 (iX1_passMinute_62 rfl rfl (iX1_passMinute_65 (iX1_passMinute_66 (Nat.le_of_ble_eq_true rfl) ?_)))))))))))
    rw [gF, gW, g1]
    change V kX1_passMinute 69 [some (.ref 16), none] [.int (cGo c n d k)] (chW c2) 0 0 (qV Q)
    generalize hgo : cGo c n d k = go
    have fin : ∀ z, z = drip go → V kX1_passMinute 99 [some (.ref 16), some (.int go)] [.int z, .int (c2.1 2), .ref 16] (chW (upd c2.1 1 (c2.1 1 + go), c2.2)) 0 0 (qV Q) := by
      intro z hz
      subst hz
      refine iX1_passMinute_99 (iX1_passMinute_100 rfl (Nat.le_of_ble_eq_true rfl) (iX1_passMinute_103 (iX1_passMinute_104 rfl (iX1_passMinute_105 rfl rfl (iX1_passMinute_108 (iX1_passMinute_109 (iX1_passMinute_110 rfl (Nat.le_of_ble_eq_true rfl) ?_)))))))
      refine iX1_passMinute_113 ?_
      rw [g2]
      have h2 := h
      unfold cMin at h2
      rw [hgo, ← g1, ← g3] at h2
      rw [← hc2] at h2 ⊢
      exact h2
    refine iX1_passMinute_69 rfl (iX1_passMinute_70 (iX1_passMinute_71 rfl (iX1_passMinute_72 rfl rfl (iX1_passMinute_75 (iX1_passMinute_76 (iX1_passMinute_77 rfl (Nat.le_of_ble_eq_true rfl) (iX1_passMinute_80 (iX1_passMinute_81 rfl (iX1_passMinute_82 rfl rfl (iX1_passMinute_85 (iX1_passMinute_86 ?_)))))))))))
    refine iX1_passMinute_87 (fun g => ?_) (fun g => ?_)
    · refine iX1_passMinute_98 ?_
      exact fin _ (by unfold drip; rw [if_pos g])
    · refine iX1_passMinute_90 (iX1_passMinute_91 (iX1_passMinute_92 (iX1_passMinute_93 (iX1_passMinute_94 (by decide) (iX1_passMinute_95 ?_)))))
      exact fin _ (by unfold drip; rw [if_neg g])
  rw [← hc2] at hw
  exact hw
theorem S_passMinute {Q : Wd → Prop} (hn : c.1 0 = nI n) (hn2 : n ≤ 20) (hd : c.1 4 = nI d) (hd2 : d ≤ 5) (hu : c.1 7 = nI u) (hu2 : u ≤ 12) (hk : c.1 8 = nI k) (hk2 : kOk c.2 k) (h : Q (chW (if u = 12 then cMin (c11 c) n d 11 k else cMin c n d u k))) : CallV kX1_passMinute [.ref 16] (chW c) Q := by
  refine e_X1_passMinute ?_
  refine iX1_passMinute_0 (iX1_passMinute_1 rfl rfl (iX1_passMinute_4 ?_))
  rw [hu]
  refine iX1_passMinute_6 (fun g => ?_) (fun g => ?_)
  · have hne : ¬ u = 12 := fun e => g (by rw [e]; rfl)
    rw [if_neg hne] at h
    exact S_pass1 hn hn2 hd hd2 hu (by omega) hk hk2 h
  · have he : u = 12 := (nI_eq (by omega) (by omega)).mp (show nI u = nI 12 from g)
    rw [if_pos he] at h
    subst he
    refine iX1_passMinute_9 (iX1_passMinute_10 rfl (Nat.le_of_ble_eq_true rfl) (S_forgetOldest ?_))
    have e3 : c.1 7 - 1 = nI 11 := by rw [hu]; rfl
    rw [e3]
    exact S_pass1 (c := c11 c) hn hn2 hd hd2 rfl (by decide) hk hk2 h
def cBack (c : Ch) (u : Nat) : Ch := (upd (upd (upd (upd c.1 7 (nI u)) 1 (c.2 5 u)) 2 (c.2 6 u)) 3 (c.1 3 - 1), c.2)
theorem S_takeMinuteBack (hu : c.1 7 = nI u) (hu2 : u ≤ 12) (h0 : u = 0 → Q (-3) (chW c)) (h1 : ∀ v, u = v + 1 → Q 1 (chW (cBack c v))) : CallI kX1_takeMinuteBack [.ref 16] (chW c) Q := by
  refine e_X1_takeMinuteBack ?_
  refine iX1_takeMinuteBack_0 (iX1_takeMinuteBack_1 rfl rfl ?_)
  rw [hu]
  refine iX1_takeMinuteBack_4 (fun g => ?_) (fun g => ?_)
  · match u, hu, hu2, g, h1 with
    | 0, _, _, g, _ => exact absurd rfl g
    | v + 1, hu, hu2, g, h1 =>
      refine iX1_takeMinuteBack_10 (iX1_takeMinuteBack_11 rfl (iX1_takeMinuteBack_12 rfl rfl (iX1_takeMinuteBack_15 (iX1_takeMinuteBack_16 ?_))))
      have e1 : c.1 7 - 1 = nI v := by rw [hu]; exact nI_pred v
      rw [e1]
      refine iX1_takeMinuteBack_17 rfl (Nat.le_of_ble_eq_true rfl) (iX1_takeMinuteBack_20 (iX1_takeMinuteBack_21 (iX1_takeMinuteBack_22 rfl rfl (iX1_takeMinuteBack_25 (iX1_takeMinuteBack_26 rfl rfl (iX1_takeMinuteBack_29 rfl rfl (by omega) (by decide) (iX1_takeMinuteBack_30 rfl (Nat.le_of_ble_eq_true rfl) (iX1_takeMinuteBack_33 (iX1_takeMinuteBack_34 (iX1_takeMinuteBack_35 rfl rfl (iX1_takeMinuteBack_38 (iX1_takeMinuteBack_39 rfl rfl (iX1_takeMinuteBack_42 rfl rfl (by omega) (by decide) (iX1_takeMinuteBack_43 rfl (Nat.le_of_ble_eq_true rfl) (iX1_takeMinuteBack_46 (iX1_takeMinuteBack_47 rfl (iX1_takeMinuteBack_48 rfl rfl (iX1_takeMinuteBack_51 (iX1_takeMinuteBack_52 (iX1_takeMinuteBack_53 rfl (Nat.le_of_ble_eq_true rfl) (iX1_takeMinuteBack_56 ?_)))))))))))))))))))))
      exact iX1_takeMinuteBack_57 (h1 v rfl)
  · have h00 : u = 0 := (nI_eq (by omega) (by omega)).mp (show nI u = nI 0 from g)
    refine iX1_takeMinuteBack_7 ?_
    exact iX1_takeMinuteBack_9 (h0 h00)
end Cham2
