def pnR (R : Nat → Int32) (p : Nat) (x y : Int32) : Nat → Int32 := upd (upd (upd (upd R (36 + 3 * p) x) (36 + 3 * p + 1) y) (36 + 3 * p + 2) (-1)) 35 (nI (p + 1))
def mbR (R : Nat → Int32) (k : Nat) (x y z t : Int32) : Nat → Int32 := upd (upd (upd (upd (upd R (64 + 4 * k) x) (64 + 4 * k + 1) y) (64 + 4 * k + 2) z) (64 + 4 * k + 3) t) 63 (nI (k + 1))
def unR (R : Nat → Int32) (v : Nat) : Nat → Int32 := upd (upd (upd (upd R 88 (nI v)) 1 (R (89 + 2 * v))) 3 (R (89 + 2 * v + 1))) 2 (R 2 - 1)
section Do2
variable {c : Ch} {R T K D s : Nat → Int32} {n d p u k i : Nat} {x y z t w : Int32} {Q : Int32 → Wd → Prop} {ws : Wd}
theorem N_pin (r : Rl c R n d p u k) (hb : ¬ ((0 ≤ x ∧ x ≤ 2) ∧ (0 ≤ y ∧ y ≤ nI n - 1)) → Q (-2) (mW R T K D (bump s 1))) (hn : ∀ q, q < n → y = nI q → (0 ≤ x ∧ x ≤ 2) → past c q → Q (-3) (mW R T K D (bump s 2))) (hf : ∀ q, q < n → y = nI q → (0 ≤ x ∧ x ≤ 2) → ¬ past c q → p = 9 → Q (-4) (mW R T K D (bump s 3))) (ok : ∀ q, q < n → y = nI q → (0 ≤ x ∧ x ≤ 2) → ¬ past c q → p < 9 → Q (nI p) (mW (pnR R p x y) T K D s)) : CallI kX11_pin [.ref 16, .int x, .int y] (mW R T K D s) Q := by
  refine e_X11_pin ?_
  have hp9 := r.ok.2.2.1.1.2
  have e35 : R 35 = nI p := by rw [r.e35, r.ok.2.2.1.1.1]
  have bad : ¬ ((0 ≤ x ∧ x ≤ 2) ∧ (0 ≤ y ∧ y ≤ nI n - 1)) → V kX11_pin 15 [some (.ref 16), some (.int x), some (.int y), none] [] (mW R T K D s) 0 0 (qI Q) := by
    intro q
    refine iX11_pin_15 (iX11_pin_16 (iX11_pin_18 rfl (Nat.le_of_ble_eq_true rfl) (M_isBad ?_)))
    exact iX11_pin_21 (hb q)
  refine iX11_pin_0 ?_
  refine iX11_pin_1 (Nat.le_of_ble_eq_true rfl) (M_isParty (fun a b => ?_) (fun a => ?_))
  · refine iX11_pin_4 (fun h => False.elim (by revert h; decide)) (fun _ => (iX11_pin_7 (iX11_pin_8 ?_)))
    refine iX11_pin_9 rfl (Nat.le_of_ble_eq_true rfl) (M_isSlice r (fun q hq e => ?_) (fun a2 => ?_))
    · subst e
      refine iX11_pin_12 (fun _ => (iX11_pin_22 (iX11_pin_23 ?_))) (fun h => False.elim (by revert h; decide))
      refine iX11_pin_24 rfl (Nat.le_of_ble_eq_true rfl) (M_hasFallen r (Nat.le_of_lt hq) (fun g => ?_) (fun g => ?_))
      · refine iX11_pin_27 (fun h => False.elim (by revert h; decide)) (fun _ => (iX11_pin_30 (iX11_pin_31 rfl (Nat.le_of_ble_eq_true rfl) (M_isNo ?_))))
        exact iX11_pin_34 (hn q hq rfl ⟨a, b⟩ g)
      · refine iX11_pin_27 (fun _ => (iX11_pin_35 (iX11_pin_36 rfl rfl (iX11_pin_39 (iX11_pin_41 (j := 35) rfl rfl (by decide) (by decide) ?_))))) (fun h => False.elim (by revert h; decide))
        rw [e35]
        refine iX11_pin_42 ?_
        refine iX11_pin_44 (fun g2 => ?_) (fun g2 => ?_)
        · have hlt : p < 9 := by
            rcases Nat.lt_or_ge p 9 with f | f
            · exact f
            · have : p = 9 := by omega
              exact absurd (by rw [this]; rfl) g2
          have fin := ok q hq rfl ⟨a, b⟩ g hlt
          refine iX11_pin_52 (iX11_pin_54 (iX11_pin_55 (iX11_pin_56 rfl rfl (iX11_pin_59 (iX11_pin_61 (j := 35) rfl rfl (by decide) (by decide) ?_)))))
          rw [e35]
          refine iX11_pin_62 (iX11_pin_63 (iX11_pin_64 rfl (iX11_pin_65 (iX11_pin_66 rfl rfl (iX11_pin_69 (iX11_pin_70 (iX11_pin_71 rfl (ix2 36 3 p) (by omega) (by decide) (iX11_pin_72 (iX11_pin_73 rfl rfl (iX11_pin_76 (iX11_pin_77 (iX11_pin_78 (iX11_pin_79 (iX11_pin_80 rfl (ix3 36 3 p 1) (by omega) (by decide) (iX11_pin_81 (iX11_pin_82 rfl rfl (iX11_pin_85 (iX11_pin_86 (iX11_pin_87 (iX11_pin_88 (iX11_pin_89 rfl (ix3 36 3 p 2) (by omega) (by decide) (iX11_pin_90 (iX11_pin_91 rfl rfl (iX11_pin_94 (iX11_pin_96 rfl rfl (iX11_pin_97 (j := 35) rfl rfl (by decide) (by decide) ?_))))))))))))))))))))))))))
          rw [upN (by omega), upN (by omega), upN (by omega), e35]
          refine iX11_pin_98 (iX11_pin_99 ?_)
          rw [nI_1]
          refine iX11_pin_100 (j := 35) rfl rfl (by decide) (by decide) (iX11_pin_101 (iX11_pin_102 rfl rfl (iX11_pin_105 (iX11_pin_107 (j := 35) rfl rfl (by decide) (by decide) ?_))))
          rw [upE]
          refine iX11_pin_108 (iX11_pin_109 ?_)
          rw [nI_pred]
          exact iX11_pin_110 fin
        · have he : p = 9 := (nI_eq (b := 9) (by omega) (by omega)).mp g2
          refine iX11_pin_47 (iX11_pin_48 rfl (Nat.le_of_ble_eq_true rfl) (M_isFull ?_))
          exact iX11_pin_51 (hf q hq rfl ⟨a, b⟩ g he)
    · refine iX11_pin_12 (fun h => False.elim (by revert h; decide)) (fun _ => ?_)
      exact bad (fun z => a2 z.2)
  · refine iX11_pin_4 (fun _ => ?_) (fun h => False.elim (by revert h; decide))
    exact bad (fun z => a z.1)
theorem N_member (r : Rl c R n d p u k) (hb : ¬ sOk2 x y z t → Q (-2) (mW R T K D (bump s 1))) (hf : sOk2 x y z t → k = 6 → Q (-4) (mW R T K D (bump s 3))) (ok : sOk2 x y z t → k < 6 → Q (nI k) (mW (mbR R k x y z t) T K D s)) : CallI kX11_member [.ref 16, .int x, .int y, .int z, .int t] (mW R T K D s) Q := by
  refine e_X11_member ?_
  have hk6 := r.ok.2.1.2.2.2.1
  have e63 : R 63 = nI k := by rw [r.e63, r.ok.2.1.2.2.1]
  have bad : ¬ sOk2 x y z t → V kX11_member 44 [some (.ref 16), some (.int x), some (.int y), some (.int z), some (.int t), none] [] (mW R T K D s) 0 0 (qI Q) := by
    intro q
    refine iX11_member_44 (iX11_member_45 (iX11_member_47 rfl (Nat.le_of_ble_eq_true rfl) (M_isBad ?_)))
    exact iX11_member_50 (hb q)
  refine iX11_member_0 (iX11_member_1 (iX11_member_2 (iX11_member_3 ?_)))
  refine iX11_member_6 (Nat.le_of_ble_eq_true rfl) (S_in (lo := 0) (hi := 5) rfl rfl (fun a b => ?_) (fun a => ?_))
  · refine iX11_member_9 (fun h => False.elim (by revert h; decide)) (fun _ => (iX11_member_12 ?_))
    refine iX11_member_13 (Nat.le_of_ble_eq_true rfl) (M_isParty (fun a2 b2 => ?_) (fun a2 => ?_))
    · refine iX11_member_16 (fun h => False.elim (by revert h; decide)) (fun _ => (iX11_member_19 (iX11_member_20 (iX11_member_21 (iX11_member_22 ?_)))))
      refine iX11_member_25 (Nat.le_of_ble_eq_true rfl) (S_in (lo := 0) (hi := 99) rfl rfl (fun a3 b3 => ?_) (fun a3 => ?_))
      · refine iX11_member_28 (fun h => False.elim (by revert h; decide)) (fun _ => (iX11_member_31 (iX11_member_33 (iX11_member_34 (iX11_member_35 ?_)))))
        refine iX11_member_38 (Nat.le_of_ble_eq_true rfl) (S_in (lo := 0) (hi := 99) rfl rfl (fun a4 b4 => ?_) (fun a4 => ?_))
        · have so : sOk2 x y z t := ⟨⟨a, b⟩, ⟨a2, b2⟩, ⟨a3, b3⟩, ⟨a4, b4⟩⟩
          refine iX11_member_41 (fun _ => (iX11_member_51 (iX11_member_52 rfl rfl (iX11_member_55 (iX11_member_57 (j := 63) rfl rfl (by decide) (by decide) ?_))))) (fun h => False.elim (by revert h; decide))
          rw [e63]
          refine iX11_member_58 ?_
          refine iX11_member_60 (fun g2 => ?_) (fun g2 => ?_)
          · have hlt : k < 6 := by
              rcases Nat.lt_or_ge k 6 with f | f
              · exact f
              · have : k = 6 := by omega
                exact absurd (by rw [this]; rfl) g2
            have fin := ok so hlt
            refine iX11_member_68 (iX11_member_70 (iX11_member_71 (iX11_member_72 rfl rfl (iX11_member_75 (iX11_member_77 (j := 63) rfl rfl (by decide) (by decide) ?_)))))
            rw [e63]
            refine iX11_member_78 (iX11_member_79 (iX11_member_80 rfl (iX11_member_82 (iX11_member_83 rfl rfl (iX11_member_86 (iX11_member_88 (iX11_member_89 rfl (ix2 64 4 k) (by omega) (by decide) (iX11_member_90 (iX11_member_91 rfl rfl (iX11_member_94 (iX11_member_96 (iX11_member_97 (iX11_member_98 (iX11_member_99 rfl (ix3 64 4 k 1) (by omega) (by decide) (iX11_member_100 (iX11_member_101 rfl rfl (iX11_member_104 (iX11_member_106 (iX11_member_107 (iX11_member_108 (iX11_member_109 rfl (ix3 64 4 k 2) (by omega) (by decide) (iX11_member_110 (iX11_member_111 rfl rfl (iX11_member_114 (iX11_member_116 (iX11_member_117 (iX11_member_118 (iX11_member_120 rfl (ix3 64 4 k 3) (by omega) (by decide) (iX11_member_121 (iX11_member_122 rfl rfl (iX11_member_125 (iX11_member_127 rfl rfl (iX11_member_128 (j := 63) rfl rfl (by decide) (by decide) ?_)))))))))))))))))))))))))))))))))
            rw [upN (by omega), upN (by omega), upN (by omega), upN (by omega), e63]
            refine iX11_member_129 (iX11_member_130 ?_)
            rw [nI_1]
            refine iX11_member_131 (j := 63) rfl rfl (by decide) (by decide) (iX11_member_132 (iX11_member_133 rfl rfl (iX11_member_136 (iX11_member_138 (j := 63) rfl rfl (by decide) (by decide) ?_))))
            rw [upE]
            refine iX11_member_139 (iX11_member_140 ?_)
            rw [nI_pred]
            exact iX11_member_141 fin
          · have he : k = 6 := (nI_eq (b := 6) (by omega) (by omega)).mp g2
            refine iX11_member_63 (iX11_member_64 rfl (Nat.le_of_ble_eq_true rfl) (M_isFull ?_))
            exact iX11_member_67 (hf so he)
        · refine iX11_member_41 (fun h => False.elim (by revert h; decide)) (fun _ => ?_)
          exact bad (fun q => a4 q.2.2.2)
      · refine iX11_member_28 (fun _ => ?_) (fun h => False.elim (by revert h; decide))
        exact bad (fun q => a3 q.2.2.1)
    · refine iX11_member_16 (fun _ => ?_) (fun h => False.elim (by revert h; decide))
      exact bad (fun q => a2 q.2.1)
  · refine iX11_member_9 (fun _ => ?_) (fun h => False.elim (by revert h; decide))
    exact bad (fun q => a q.1)
theorem N_drop (r : Rl c R n d p u k) (hb : ¬ (0 ≤ x ∧ x ≤ 1) → Q (-2) (mW R T K D (bump s 1))) (hn : (x = 0 ∧ p = 0) ∨ (x = 1 ∧ k = 0) → Q (-3) (mW R T K D (bump s 2))) (ok0 : x = 0 → ∀ v, p = v + 1 → Q (nI v) (mW (upd R 35 (nI v)) T K D s)) (ok1 : x = 1 → ∀ v, k = v + 1 → Q (nI v) (mW (upd R 63 (nI v)) T K D s)) : CallI kX11_drop [.ref 16, .int x] (mW R T K D s) Q := by
  refine e_X11_drop ?_
  have hp9 := r.ok.2.2.1.1.2
  have hk6 := r.ok.2.1.2.2.2.1
  have e35 : R 35 = nI p := by rw [r.e35, r.ok.2.2.1.1.1]
  have e63 : R 63 = nI k := by rw [r.e63, r.ok.2.1.2.2.1]
  refine iX11_drop_0 (iX11_drop_1 (iX11_drop_2 (iX11_drop_3 ?_)))
  refine iX11_drop_4 (Nat.le_of_ble_eq_true rfl) (S_in (lo := 0) (hi := 1) rfl rfl (fun a b => ?_) (fun a => ?_))
  · refine iX11_drop_7 (fun _ => (iX11_drop_17 ?_)) (fun h => False.elim (by revert h; decide))
    refine iX11_drop_18 (fun g => ?_) (fun g => ?_)
    · have hx : x = 1 := by
        obtain ⟨m, hm, e⟩ := nI_of2 (M := 1) (n := 1) (by decide) (i32_len a) b
        have : m ≠ 0 := fun f => g (by rw [e, f]; rfl)
        have : m = 1 := by omega
        rw [e, this]
        rfl
      refine iX11_drop_26 (iX11_drop_28 rfl (iX11_drop_29 (iX11_drop_30 rfl rfl (iX11_drop_33 (iX11_drop_34 (j := 63) rfl rfl (by decide) (by decide) ?_)))))
      rw [e63]
      refine iX11_drop_35 (fun g2 => ?_) (fun g2 => ?_)
      · obtain ⟨v, hv⟩ : ∃ v, k = v + 1 := ⟨k - 1, by have : k ≠ 0 := fun f => g2 (by rw [f]; rfl); omega⟩
        have fin := ok1 hx v hv
        refine iX11_drop_43 (iX11_drop_44 rfl rfl (iX11_drop_47 (iX11_drop_48 rfl rfl (iX11_drop_49 (j := 63) rfl rfl (by decide) (by decide) ?_))))
        rw [e63, hv]
        refine iX11_drop_50 (iX11_drop_51 ?_)
        rw [nI_pred]
        refine iX11_drop_52 (j := 63) rfl rfl (by decide) (by decide) (iX11_drop_53 (iX11_drop_54 rfl rfl (iX11_drop_57 (iX11_drop_58 (j := 63) rfl rfl (by decide) (by decide) ?_))))
        exact iX11_drop_59 fin
      · have he : k = 0 := (nI_eq (b := 0) (by omega) (by omega)).mp g2
        refine iX11_drop_38 (iX11_drop_39 rfl (Nat.le_of_ble_eq_true rfl) (M_isNo ?_))
        exact iX11_drop_42 (hn (Or.inr ⟨hx, he⟩))
    · refine iX11_drop_21 (iX11_drop_23 (iX11_drop_28 rfl (iX11_drop_29 (iX11_drop_30 rfl rfl (iX11_drop_33 (iX11_drop_34 (j := 35) rfl rfl (by decide) (by decide) ?_))))))
      rw [e35]
      refine iX11_drop_35 (fun g2 => ?_) (fun g2 => ?_)
      · obtain ⟨v, hv⟩ : ∃ v, p = v + 1 := ⟨p - 1, by have : p ≠ 0 := fun f => g2 (by rw [f]; rfl); omega⟩
        have fin := ok0 g v hv
        refine iX11_drop_43 (iX11_drop_44 rfl rfl (iX11_drop_47 (iX11_drop_48 rfl rfl (iX11_drop_49 (j := 35) rfl rfl (by decide) (by decide) ?_))))
        rw [e35, hv]
        refine iX11_drop_50 (iX11_drop_51 ?_)
        rw [nI_pred]
        refine iX11_drop_52 (j := 35) rfl rfl (by decide) (by decide) (iX11_drop_53 (iX11_drop_54 rfl rfl (iX11_drop_57 (iX11_drop_58 (j := 35) rfl rfl (by decide) (by decide) ?_))))
        exact iX11_drop_59 fin
      · have he : p = 0 := (nI_eq (b := 0) (by omega) (by omega)).mp g2
        refine iX11_drop_38 (iX11_drop_39 rfl (Nat.le_of_ble_eq_true rfl) (M_isNo ?_))
        exact iX11_drop_42 (hn (Or.inl ⟨g, he⟩))
  · refine iX11_drop_7 (fun h => False.elim (by revert h; decide)) (fun _ => (iX11_drop_10 (iX11_drop_11 (iX11_drop_13 rfl (Nat.le_of_ble_eq_true rfl) (M_isBad ?_)))))
    exact iX11_drop_16 (hb a)
theorem N_type {l : Nat} (hl : s 0 = nI l) (hl2 : l ≤ 150) (hb : ¬ (0 ≤ x ∧ x ≤ 127) → Q (-2) (mW R T K D (bump s 1))) (hf : 0 ≤ x → x ≤ 127 → l = 150 → Q (-4) (mW R T K D (bump s 3))) (ok : 0 ≤ x → x ≤ 127 → l < 150 → Q (nI (l + 1)) (mW R (upd T l x) K D (upd s 0 (nI (l + 1))))) : CallI kX11_type [.ref 16, .int x] (mW R T K D s) Q := by
  refine e_X11_type ?_
  refine iX11_type_0 (iX11_type_1 (iX11_type_2 (iX11_type_3 ?_)))
  refine iX11_type_6 (Nat.le_of_ble_eq_true rfl) (S_in (lo := 0) (hi := 127) rfl rfl (fun a b => ?_) (fun a => ?_))
  · refine iX11_type_9 (fun _ => (iX11_type_19 (iX11_type_20 rfl rfl ?_))) (fun h => False.elim (by revert h; decide))
    rw [hl]
    refine iX11_type_23 ?_
    refine iX11_type_26 (fun g => ?_) (fun g => ?_)
    · have hlt : l < 150 := by
        rcases Nat.lt_or_ge l 150 with f | f
        · exact f
        · have : l = 150 := by omega
          exact absurd (by rw [this]; rfl) g
      have fin := ok a b hlt
      refine iX11_type_34 (iX11_type_35 rfl rfl (iX11_type_38 (iX11_type_39 rfl rfl ?_)))
      rw [hl]
      refine iX11_type_42 (iX11_type_43 (j := l) rfl rfl (by omega) (by decide) (iX11_type_44 (iX11_type_45 rfl (iX11_type_46 rfl rfl ?_))))
      rw [hl]
      refine iX11_type_49 (iX11_type_50 ?_)
      rw [nI_1]
      refine iX11_type_51 rfl (Nat.le_of_ble_eq_true rfl) (iX11_type_54 (iX11_type_55 rfl rfl ?_))
      exact iX11_type_58 fin
    · have he : l = 150 := (nI_eq (b := 150) (by omega) (by omega)).mp g
      refine iX11_type_29 (iX11_type_30 rfl (Nat.le_of_ble_eq_true rfl) (M_isFull ?_))
      exact iX11_type_33 (hf a b he)
  · refine iX11_type_9 (fun h => False.elim (by revert h; decide)) (fun _ => (iX11_type_12 (iX11_type_13 (iX11_type_15 rfl (Nat.le_of_ble_eq_true rfl) (M_isBad ?_)))))
    exact iX11_type_18 (hb a)
theorem N_clear (h : Q (s 0) (mW R T K D (upd s 0 0))) : CallI kX11_clear [.ref 16] (mW R T K D s) Q := by
  refine e_X11_clear ?_
  refine iX11_clear_0 (iX11_clear_1 rfl rfl (iX11_clear_4 rfl (iX11_clear_5 (iX11_clear_6 (iX11_clear_7 rfl (Nat.le_of_ble_eq_true rfl) (iX11_clear_10 ?_))))))
  exact iX11_clear_11 h
theorem N_undo (r : Rl c R n d p u k) (hn : u = 0 → Q (-3) (mW R T K D (bump s 2))) (ok : ∀ v, u = v + 1 → Q 1 (mW (unR R v) T K D s)) : CallI kX11_undo [.ref 16] (mW R T K D s) Q := by
  refine e_X11_undo ?_
  have hu := r.ok.2.2.2.2
  have e88 : R 88 = nI u := by rw [r.e88, r.ok.2.2.2.1]
  refine iX11_undo_0 (iX11_undo_1 rfl rfl (iX11_undo_4 (iX11_undo_6 (j := 88) rfl rfl (by decide) (by decide) ?_)))
  rw [e88]
  refine iX11_undo_7 (fun g => ?_) (fun g => ?_)
  · obtain ⟨v, hv⟩ : ∃ v, u = v + 1 := ⟨u - 1, by have : u ≠ 0 := fun f => g (by rw [f]; rfl); omega⟩
    have fin := ok v hv
    refine iX11_undo_15 (iX11_undo_16 rfl rfl (iX11_undo_19 (iX11_undo_21 rfl rfl (iX11_undo_22 (j := 88) rfl rfl (by decide) (by decide) ?_))))
    rw [e88, hv]
    refine iX11_undo_23 (iX11_undo_24 ?_)
    rw [nI_pred]
    refine iX11_undo_25 (j := 88) rfl rfl (by decide) (by decide) (iX11_undo_26 (iX11_undo_27 rfl rfl (iX11_undo_30 (iX11_undo_31 (iX11_undo_32 rfl rfl (iX11_undo_35 (iX11_undo_37 (iX11_undo_38 (iX11_undo_39 rfl rfl (iX11_undo_42 (iX11_undo_44 (j := 88) rfl rfl (by decide) (by decide) ?_)))))))))))
    rw [upE]
    refine iX11_undo_45 (iX11_undo_46 (iX11_undo_47 rfl (ix2 89 2 v) (by omega) (by decide) ?_))
    rw [upN (by omega)]
    refine iX11_undo_48 (j := 1) rfl rfl (by decide) (by decide) (iX11_undo_49 (iX11_undo_50 rfl rfl (iX11_undo_53 (iX11_undo_54 (iX11_undo_55 rfl rfl (iX11_undo_58 (iX11_undo_60 (iX11_undo_61 (iX11_undo_62 rfl rfl (iX11_undo_65 (iX11_undo_67 (j := 88) rfl rfl (by decide) (by decide) ?_)))))))))))
    rw [upN (by omega), upE]
    refine iX11_undo_68 (iX11_undo_69 (iX11_undo_70 (iX11_undo_71 (iX11_undo_72 rfl (ix3 89 2 v 1) (by omega) (by decide) ?_))))
    rw [upN (by omega), upN (by omega)]
    refine iX11_undo_73 (j := 3) rfl rfl (by decide) (by decide) (iX11_undo_74 (iX11_undo_75 rfl rfl (iX11_undo_78 (iX11_undo_79 rfl rfl (iX11_undo_80 (j := 2) rfl rfl (by decide) (by decide) ?_)))))
    rw [upN (by omega), upN (by omega), upN (by omega)]
    refine iX11_undo_81 (iX11_undo_82 (iX11_undo_83 (j := 2) rfl rfl (by decide) (by decide) (iX11_undo_84 ?_)))
    exact iX11_undo_85 fin
  · have he : u = 0 := (nI_eq (b := 0) (by omega) (by omega)).mp g
    refine iX11_undo_10 (iX11_undo_11 rfl (Nat.le_of_ble_eq_true rfl) (M_isNo ?_))
    exact iX11_undo_14 (hn he)
end Do2
