section Benches2
variable {m : Int32} {a : Nat → Nat → Int32} {k : Nat} {t p : Int32} {Q : Int32 → Wd → Prop}
theorem nlt_of {i k : Nat} (hk : i < 2147483648) (g : ¬ nI k ≤ nI i) : i < k := by
  rcases Nat.lt_or_ge i k with q | q
  · exact q
  · exact absurd (nI_le q hk) g
theorem eq_of {i k : Nat} (hi : i ≤ k) (hk : k < 2147483648) (g : nI k ≤ nI i) : i = k := by
  have := (nI_leI (by omega) (by omega)).mp g
  omega
theorem S_breathOfAll (hk : kOk a k) (hm : m = nI k) (h : Q (l_sum (bBre a t) k) (bnW m a)) : CallI kX0_breathOfAll [.ref 16, .int t] (bnW m a) Q := by
  subst hm
  refine e_X0_breathOfAll ?_
  refine iX0_breathOfAll_0 (iX0_breathOfAll_1 rfl (iX0_breathOfAll_2 (iX0_breathOfAll_3 rfl ?_)))
  have hk6 := hk.1
  refine dn k (P := fun i => V kX0_breathOfAll 4 [some (.ref 16), some (.int t), some (.int (l_sum (bBre a t) i)), some (.int (nI i))] [] (bnW (nI k) a) 0 0 (qI Q)) ?_ 0 (Nat.zero_le _)
  intro i hi ih
  refine iX0_breathOfAll_4 (iX0_breathOfAll_5 (iX0_breathOfAll_6 rfl rfl ?_))
  refine iX0_breathOfAll_9 (fun g => ?_) (fun g => ?_)
  · have e := eq_of hi (by omega) g
    subst e
    refine iX0_breathOfAll_45 ?_
    exact iX0_breathOfAll_46 h
  · have hlt := nlt_of (by omega) g
    have ih := ih hlt
    obtain ⟨x, hx, ex⟩ := hk.2 i hlt
    have e1 : nI i + 1 = nI (i + 1) := nI_1 i
    have e2 : l_sum (bBre a t) (i + 1) = l_sum (bBre a t) i + bBre a t i := rfl
    refine iX0_breathOfAll_12 (iX0_breathOfAll_13 (iX0_breathOfAll_14 (iX0_breathOfAll_15 rfl (Nat.le_of_ble_eq_true rfl) (S_isInside (by omega) (fun g3 => ?_) (fun g3 => ?_)))))
    · have e3 : bBre a t i = kBre x t := by
        unfold bBre
        rw [if_pos g3, ex, nI_clamp (by omega)]
      rw [e2, e3] at ih
      have fin : ∀ v, v = kBre x t → V kX0_breathOfAll 37 [some (.ref 16), some (.int t), some (.int (l_sum (bBre a t) i)), some (.int (nI i))] [.int v, .int (l_sum (bBre a t) i)] (bnW (nI k) a) 0 0 (qI Q) := by
        intro v hv
        subst hv
        refine iX0_breathOfAll_37 (iX0_breathOfAll_38 rfl (iX0_breathOfAll_39 rfl (iX0_breathOfAll_42 ?_)))
        rw [e1]
        exact ih
      refine iX0_breathOfAll_18 (fun h => False.elim (by revert h; decide)) (fun _ => (iX0_breathOfAll_21 (iX0_breathOfAll_22 (iX0_breathOfAll_23 rfl rfl (iX0_breathOfAll_26 (iX0_breathOfAll_27 rfl rfl (iX0_breathOfAll_30 (iX0_breathOfAll_31 rfl rfl (by omega) (by decide) ?_))))))))
      rw [ex]
      match x, hx, fin with
      | 0, _, fin => exact iX0_breathOfAll_32 rfl rfl (by decide) (by decide) rfl (iX0_breathOfAll_33 (iX0_breathOfAll_34_X5 rfl (Nat.le_of_ble_eq_true rfl) (S_b5 (fin _ rfl))))
      | 1, _, fin => exact iX0_breathOfAll_32 rfl rfl (by decide) (by decide) rfl (iX0_breathOfAll_33 (iX0_breathOfAll_34_X7 rfl (Nat.le_of_ble_eq_true rfl) (S_b5 (fin _ rfl))))
      | 2, _, fin => exact iX0_breathOfAll_32 rfl rfl (by decide) (by decide) rfl (iX0_breathOfAll_33 (iX0_breathOfAll_34_X2 rfl (Nat.le_of_ble_eq_true rfl) (S_b2 (fin _ rfl))))
      | 3, _, fin => exact iX0_breathOfAll_32 rfl rfl (by decide) (by decide) rfl (iX0_breathOfAll_33 (iX0_breathOfAll_34_X9 rfl (Nat.le_of_ble_eq_true rfl) (S_b5 (fin _ rfl))))
      | 4, _, fin => exact iX0_breathOfAll_32 rfl rfl (by decide) (by decide) rfl (iX0_breathOfAll_33 (iX0_breathOfAll_34_X8 (r := 10) rfl (Nat.le_of_ble_eq_true rfl) (S_b8 (r := 10) rfl (fin _ rfl))))
      | 5, _, fin => exact iX0_breathOfAll_32 rfl rfl (by decide) (by decide) rfl (iX0_breathOfAll_33 (iX0_breathOfAll_34_X4 (r := 11) rfl (Nat.le_of_ble_eq_true rfl) (S_b4 (r := 11) rfl (fin _ rfl))))
      | x + 6, hx, _ => exact absurd hx (by omega)
    · have e3 : bBre a t i = 0 := by unfold bBre; rw [if_neg g3]
      refine iX0_breathOfAll_18 (fun _ => (iX0_breathOfAll_39 rfl (iX0_breathOfAll_42 ?_))) (fun h => False.elim (by revert h; decide))
      rw [e1]
      rw [e2, e3, Int32.add_zero] at ih
      exact ih
/-! parties -/
noncomputable def bSum (a : Nat → Nat → Int32) (k : Nat) (t : Int32) (p : Nat) : Int32 := l_sum (bVot a (nI p) t) k
theorem S_votesOfAll (hk : kOk a k) (hm : m = nI k) (h : Q (l_sum (bSum a k t) 3) (bnW m a)) : CallI kX0_votesOfAll [.ref 16, .int t] (bnW m a) Q := by
  refine e_X0_votesOfAll ?_
  refine iX0_votesOfAll_0 (iX0_votesOfAll_1 rfl (iX0_votesOfAll_2 (iX0_votesOfAll_3 rfl ?_)))
  refine dn 3 (P := fun i => V kX0_votesOfAll 4 [some (.ref 16), some (.int t), some (.int (l_sum (bSum a k t) i)), some (.int (nI i))] [] (bnW m a) 0 0 (qI Q)) ?_ 0 (Nat.zero_le _)
  intro i hi ih
  refine iX0_votesOfAll_4 (iX0_votesOfAll_5 ?_)
  refine iX0_votesOfAll_6 (fun g => ?_) (fun g => ?_)
  · have e := eq_of (k := 3) hi (by omega) g
    subst e
    refine iX0_votesOfAll_24 ?_
    exact iX0_votesOfAll_25 h
  · have hlt := nlt_of (k := 3) (by omega) g
    have ih := ih hlt
    have e1 : nI i + 1 = nI (i + 1) := nI_1 i
    refine iX0_votesOfAll_9 (iX0_votesOfAll_10 (iX0_votesOfAll_11 (iX0_votesOfAll_12 (iX0_votesOfAll_13 rfl (Nat.le_of_ble_eq_true rfl) (S_bvotesOf hk hm (iX0_votesOfAll_16 (iX0_votesOfAll_17 rfl (iX0_votesOfAll_18 rfl (iX0_votesOfAll_21 ?_)))))))))
    rw [e1]
    exact ih
/-- who has the house among the first i parties, and with how many votes -/
noncomputable def bBest (a : Nat → Nat → Int32) (k : Nat) (t : Int32) : Nat → Int32 × Int32
  | 0 => (-1, 0)
  | i + 1 => if bSum a k t i ≤ (bBest a k t i).2 then bBest a k t i else (nI i, bSum a k t i)
theorem S_strongest (hk : kOk a k) (hm : m = nI k) (h : Q (bBest a k t 3).1 (bnW m a)) : CallI kX0_strongest [.ref 16, .int t] (bnW m a) Q := by
  refine e_X0_strongest ?_
  refine iX0_strongest_0 (iX0_strongest_1 rfl (iX0_strongest_2 (iX0_strongest_3 rfl (iX0_strongest_4 (iX0_strongest_5 rfl ?_)))))
  have key : ∀ i, i ≤ 3 → ∀ x5, V kX0_strongest 7 [some (.ref 16), some (.int t), some (.int (bBest a k t i).1), some (.int (bBest a k t i).2), some (.int (nI i)), x5] [] (bnW m a) 0 0 (qI Q) := by
    refine dn 3 ?_
    intro i hi ih x5
    refine iX0_strongest_7 (iX0_strongest_9 ?_)
    refine iX0_strongest_10 (fun g => ?_) (fun g => ?_)
    · have e := eq_of (k := 3) hi (by omega) g
      subst e
      refine iX0_strongest_40 ?_
      exact iX0_strongest_41 h
    · have hlt := nlt_of (k := 3) (by omega) g
      have ih := ih hlt
      have e1 : nI i + 1 = nI (i + 1) := nI_1 i
      have e2 : bBest a k t (i + 1) = if bSum a k t i ≤ (bBest a k t i).2 then bBest a k t i else (nI i, bSum a k t i) := rfl
      refine iX0_strongest_13 (iX0_strongest_14 (iX0_strongest_16 (iX0_strongest_17 rfl (Nat.le_of_ble_eq_true rfl) (S_bvotesOf hk hm (iX0_strongest_20 rfl (iX0_strongest_22 (iX0_strongest_24 ?_)))))))
      refine iX0_strongest_25 (fun g2 => ?_) (fun g2 => ?_)
      · have g2 : bSum a k t i ≤ (bBest a k t i).2 := g2
        rw [if_pos g2] at e2
        refine iX0_strongest_34 rfl (iX0_strongest_37 ?_)
        rw [e1]
        have := ih (some (.int (bSum a k t i)))
        rw [e2] at this
        exact this
      · have g2 : ¬ bSum a k t i ≤ (bBest a k t i).2 := g2
        rw [if_neg g2] at e2
        refine iX0_strongest_28 (iX0_strongest_30 rfl (iX0_strongest_31 (iX0_strongest_33 rfl (iX0_strongest_34 rfl (iX0_strongest_37 ?_)))))
        rw [e1]
        have := ih (some (.int (bSum a k t i)))
        rw [e2] at this
        exact this
  exact key 0 (Nat.zero_le _) none
/-! changes -/
theorem S_sendAllHome {Q : Wd → Prop} (h : Q (bnW 0 a)) : CallV kX0_sendAllHome [.ref 16] (bnW m a) Q := by
  refine e_X0_sendAllHome ?_
  refine iX0_sendAllHome_0 (iX0_sendAllHome_1 (iX0_sendAllHome_2 rfl (Nat.le_of_ble_eq_true rfl) ?_))
  exact iX0_sendAllHome_5 h
theorem S_dropMember (h0 : m = 0 → Q (-3) (bnW m a)) (h1 : ¬ m = 0 → Q (m - 1) (bnW (m - 1) a)) : CallI kX0_dropMember [.ref 16] (bnW m a) Q := by
  refine e_X0_dropMember ?_
  refine iX0_dropMember_0 (iX0_dropMember_1 rfl rfl ?_)
  refine iX0_dropMember_4 (fun g => ?_) (fun g => ?_)
  · refine iX0_dropMember_10 (iX0_dropMember_11 rfl (iX0_dropMember_12 rfl rfl (iX0_dropMember_15 (iX0_dropMember_16 (iX0_dropMember_17 rfl (Nat.le_of_ble_eq_true rfl) (iX0_dropMember_20 (iX0_dropMember_21 rfl rfl ?_)))))))
    exact iX0_dropMember_24 (h1 g)
  · refine iX0_dropMember_7 ?_
    exact iX0_dropMember_9 (h0 g)
def sOk (x p f t : Int32) : Prop := (0 ≤ x ∧ x ≤ 5) ∧ (0 ≤ p ∧ p ≤ 2) ∧ (0 ≤ f ∧ f ≤ 99) ∧ (0 ≤ t ∧ t ≤ 99)
def stA (a : Nat → Nat → Int32) (k : Nat) (x p f t : Int32) : Nat → Nat → Int32 := va_up (va_up (va_up (va_up a 7 (upd (a 7) k x)) 8 (upd (a 8) k p)) 9 (upd (a 9) k f)) 10 (upd (a 10) k t)
theorem S_seat {x f : Int32} (hk : k ≤ 6) (hm : m = nI k) (hb : ¬ sOk x p f t → Q (-2) (bnW m a)) (hf : sOk x p f t → k = 6 → Q (-4) (bnW m a)) (ok : sOk x p f t → k < 6 → Q (nI k) (bnW (nI (k + 1)) (stA a k x p f t))) : CallI kX0_seat [.ref 16, .int x, .int p, .int f, .int t] (bnW m a) Q := by
  subst hm
  refine e_X0_seat ?_
  refine iX0_seat_0 (iX0_seat_1 (iX0_seat_2 (iX0_seat_3 rfl rfl ?_)))
  refine iX0_seat_6r rfl ?_
  refine iX0_seat_7 (iX0_seat_8 ?_)
  have bad1 : ¬ sOk x p f t → V kX0_seat 22 [some (.ref 16), some (.int x), some (.int p), some (.int f), some (.int t)] [] (bnW (nI k) a) 0 0 (qI Q) := by
    intro z
    refine iX0_seat_22 ?_
    exact iX0_seat_24 (hb z)
  have bad2 : ¬ sOk x p f t → V kX0_seat 46 [some (.ref 16), some (.int x), some (.int p), some (.int f), some (.int t)] [] (bnW (nI k) a) 0 0 (qI Q) := by
    intro z
    refine iX0_seat_46 ?_
    exact iX0_seat_48 (hb z)
  refine iX0_seat_9 (Nat.le_of_ble_eq_true rfl) (S_within (fun a1 a2 => ?_) (fun a1 => ?_))
  · refine iX0_seat_12 (fun h => False.elim (by revert h; decide)) (fun _ => iX0_seat_15 (iX0_seat_16 (Nat.le_of_ble_eq_true rfl) (S_isParty (fun b1 b2 => ?_) (fun b1 => ?_))))
    · refine iX0_seat_19 (fun _ => (iX0_seat_25 (iX0_seat_26 (iX0_seat_27 ?_)))) (fun h => False.elim (by revert h; decide))
      refine iX0_seat_29 (Nat.le_of_ble_eq_true rfl) (S_within (fun c1 c2 => ?_) (fun c1 => ?_))
      · refine iX0_seat_32 (fun h => False.elim (by revert h; decide)) (fun _ => (iX0_seat_35 (iX0_seat_37 (iX0_seat_38 ?_))))
        refine iX0_seat_40 (Nat.le_of_ble_eq_true rfl) (S_within (fun d1 d2 => ?_) (fun d1 => ?_))
        · have good : sOk x p f t := ⟨⟨a1, a2⟩, ⟨b1, b2⟩, ⟨c1, c2⟩, ⟨d1, d2⟩⟩
          refine iX0_seat_43 (fun _ => (iX0_seat_49 (iX0_seat_50 rfl rfl (iX0_seat_53 ?_)))) (fun h => False.elim (by revert h; decide))
          refine iX0_seat_55 (fun g => ?_) (fun g => ?_)
          · have hlt : k < 6 := (nI_ltI (by omega) (by omega)).mp (show nI k < nI 6 from g)
            refine iX0_seat_61 (iX0_seat_62 rfl rfl (iX0_seat_65 (iX0_seat_66 rfl rfl (iX0_seat_69 (iX0_seat_70 rfl rfl (by omega) (by decide) (iX0_seat_71 (iX0_seat_72 rfl rfl (iX0_seat_75 (iX0_seat_76 rfl rfl (iX0_seat_79 (iX0_seat_80 rfl rfl (by omega) (by decide) (iX0_seat_81 (iX0_seat_82 rfl rfl (iX0_seat_85 (iX0_seat_86 rfl rfl (iX0_seat_89 (iX0_seat_90 rfl rfl (by omega) (by decide) (iX0_seat_91 (iX0_seat_92 rfl rfl (iX0_seat_95 (iX0_seat_96 rfl rfl (iX0_seat_99 (iX0_seat_101 rfl rfl (by omega) (by decide) (iX0_seat_102 (iX0_seat_103 rfl (iX0_seat_104 rfl rfl (iX0_seat_107 (iX0_seat_108 (iX0_seat_109 rfl (Nat.le_of_ble_eq_true rfl) (iX0_seat_112 (iX0_seat_113 rfl rfl (iX0_seat_116 (iX0_seat_117 ?_)))))))))))))))))))))))))))))))))
            rw [show nI k + 1 - 1 = nI k by rw [nI_1, nI_pred]]
            refine iX0_seat_118 ?_
            have := ok good hlt
            rw [← nI_1] at this
            exact this
          · have h6 : k = 6 := by
              rcases Nat.lt_or_ge k 6 with q | q
              · exact absurd (show nI k < nI 6 from nI_lt q (by omega)) g
              · omega
            refine iX0_seat_58 ?_
            exact iX0_seat_60 (hf good h6)
        · refine iX0_seat_43 (fun h => False.elim (by revert h; decide)) (fun _ => ?_)
          exact bad2 (fun z => d1 z.2.2.2)
      · refine iX0_seat_32 (fun _ => ?_) (fun h => False.elim (by revert h; decide))
        exact bad2 (fun z => c1 z.2.2.1)
    · refine iX0_seat_19 (fun h => False.elim (by revert h; decide)) (fun _ => ?_)
      exact bad1 (fun z => b1 z.2.1)
  · refine iX0_seat_12 (fun _ => ?_) (fun h => False.elim (by revert h; decide))
    exact bad1 (fun z => a1 z.1)
/-- a row's first n places as another's -/
abbrev cpy0 (n : Nat) (f g : Nat → Int32) : Nat → Int32 := va_cpy f g 0 0 n
def bnW2 (m : Int32) (a : Nat → Nat → Int32) (m2 : Int32) (a2 : Nat → Nat → Int32) : Wd := [ob 0 [.ref 21, .ref 17, .ref 18, .ref 19, .ref 20, .int m], ia 0 6 (a 7), ia 0 6 (a 8), ia 0 6 (a 9), ia 0 6 (a 10), ra 3 [some 22, some 23, some 24, some 25, some 26, some 27], ob 5 [], ob 7 [], ob 2 [], ob 9 [], ob 8 [], ob 4 [],
  ob 0 [.ref 33, .ref 29, .ref 30, .ref 31, .ref 32, .int m2], ia 0 6 (a2 7), ia 0 6 (a2 8), ia 0 6 (a2 9), ia 0 6 (a2 10), ra 3 [some 34, some 35, some 36, some 37, some 38, some 39], ob 5 [], ob 7 [], ob 2 [], ob 9 [], ob 8 [], ob 4 []]
def lkA (a b : Nat → Nat → Int32) : Nat → Nat → Int32 := va_up (va_up (va_up (va_up a 7 (cpy0 6 (b 7) (a 7))) 8 (cpy0 6 (b 8) (a 8))) 9 (cpy0 6 (b 9) (a 9))) 10 (cpy0 6 (b 10) (a 10))
theorem S_bLike {m2 : Int32} {a2 : Nat → Nat → Int32} {Q : Wd → Prop} (h : Q (bnW2 m2 (lkA a a2) m2 a2)) : CallV kX0_becomeLike [.ref 16, .ref 28] (bnW2 m a m2 a2) Q := by
  refine e_X0_becomeLike ?_
  refine iX0_becomeLike_0 (iX0_becomeLike_1 (iX0_becomeLike_2 rfl rfl (iX0_becomeLike_5 rfl (Nat.le_of_ble_eq_true rfl) (iX0_becomeLike_8 (iX0_becomeLike_9 rfl rfl (iX0_becomeLike_12 (iX0_becomeLike_13 (iX0_becomeLike_14 rfl rfl (iX0_becomeLike_17 (iX0_becomeLike_18 (iX0_becomeLike_20 (a := 0) (b := 0) (c := 6) rfl rfl rfl rfl rfl (by decide) (by decide) (by decide) (by decide) (by decide) (Nat.le_of_ble_eq_true rfl) (iX0_becomeLike_23 (iX0_becomeLike_24 rfl rfl (iX0_becomeLike_27 (iX0_becomeLike_28 (iX0_becomeLike_29 rfl rfl (iX0_becomeLike_32 (iX0_becomeLike_33 (iX0_becomeLike_35 (a := 0) (b := 0) (c := 6) rfl rfl rfl rfl rfl (by decide) (by decide) (by decide) (by decide) (by decide) (Nat.le_of_ble_eq_true rfl) (iX0_becomeLike_38 (iX0_becomeLike_39 rfl rfl (iX0_becomeLike_42 (iX0_becomeLike_43 (iX0_becomeLike_44 rfl rfl (iX0_becomeLike_47 (iX0_becomeLike_48 (iX0_becomeLike_50 (a := 0) (b := 0) (c := 6) rfl rfl rfl rfl rfl (by decide) (by decide) (by decide) (by decide) (by decide) (Nat.le_of_ble_eq_true rfl) (iX0_becomeLike_53 (iX0_becomeLike_54 rfl rfl (iX0_becomeLike_57 (iX0_becomeLike_58 (iX0_becomeLike_59 rfl rfl (iX0_becomeLike_62 (iX0_becomeLike_63 (iX0_becomeLike_65 (a := 0) (b := 0) (c := 6) rfl rfl rfl rfl rfl (by decide) (by decide) (by decide) (by decide) (by decide) (Nat.le_of_ble_eq_true rfl) ?_)))))))))))))))))))))))))))))))))))
  exact iX0_becomeLike_68 h
/-! digest -/
abbrev dg (h : Int64) (x : Int32) : Int64 := 31 * h + x.toInt64
def bDig (a : Nat → Nat → Int32) (h : Int64) : Nat → Int64
  | 0 => h
  | i + 1 => dg (dg (dg (dg (bDig a h i) (a 7 i)) (a 8 i)) (a 9 i)) (a 10 i)
theorem S_bDigest {d : Int64} {Q : Int64 → Wd → Prop} (hk : k ≤ 6) (hm : m = nI k) (h : Q (bDig a d k) (bnW m a)) : CallL kX0_digestFrom [.ref 16, .long d] (bnW m a) Q := by
  subst hm
  refine e_X0_digestFrom ?_
  refine iX0_digestFrom_0 (iX0_digestFrom_1 rfl (iX0_digestFrom_2 (iX0_digestFrom_3 rfl ?_)))
  refine dn k (P := fun i => V kX0_digestFrom 5 [some (.ref 16), some (.long d), none, some (.long (bDig a d i)), none, some (.int (nI i))] [] (bnW (nI k) a) 0 0 (qL Q)) ?_ 0 (Nat.zero_le _)
  intro i hi ih
  refine iX0_digestFrom_5 (iX0_digestFrom_7 (iX0_digestFrom_8 rfl rfl ?_))
  refine iX0_digestFrom_11 (fun g => ?_) (fun g => ?_)
  · have e := eq_of hi (by omega) g
    subst e
    refine iX0_digestFrom_80 ?_
    exact iX0_digestFrom_81 h
  · have hlt := nlt_of (by omega) g
    have ih := ih hlt
    have e1 : nI i + 1 = nI (i + 1) := nI_1 i
    refine iX0_digestFrom_14 (iX0_digestFrom_17 (iX0_digestFrom_18 (iX0_digestFrom_19 (iX0_digestFrom_20 rfl rfl (iX0_digestFrom_23 (iX0_digestFrom_25 rfl rfl (by omega) (by decide) (iX0_digestFrom_26 (iX0_digestFrom_27 (iX0_digestFrom_28 rfl (iX0_digestFrom_29 (iX0_digestFrom_32 (iX0_digestFrom_33 (iX0_digestFrom_34 (iX0_digestFrom_35 rfl rfl (iX0_digestFrom_38 (iX0_digestFrom_40 rfl rfl (by omega) (by decide) (iX0_digestFrom_41 (iX0_digestFrom_42 (iX0_digestFrom_43 rfl (iX0_digestFrom_44 (iX0_digestFrom_47 (iX0_digestFrom_48 (iX0_digestFrom_49 (iX0_digestFrom_50 rfl rfl (iX0_digestFrom_53 (iX0_digestFrom_55 rfl rfl (by omega) (by decide) (iX0_digestFrom_56 (iX0_digestFrom_57 (iX0_digestFrom_58 rfl (iX0_digestFrom_59 (iX0_digestFrom_62 (iX0_digestFrom_63 (iX0_digestFrom_64 (iX0_digestFrom_65 rfl rfl (iX0_digestFrom_68 (iX0_digestFrom_70 rfl rfl (by omega) (by decide) (iX0_digestFrom_71 (iX0_digestFrom_72 (iX0_digestFrom_73 rfl (iX0_digestFrom_74 rfl (iX0_digestFrom_77 ?_)))))))))))))))))))))))))))))))))))))))))
    rw [e1]
    exact ih
end Benches2
