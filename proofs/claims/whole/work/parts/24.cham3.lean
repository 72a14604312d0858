def owL (f : Nat → Int32) (o : Int32) : Nat → Nat → Nat
  | 0, i => i
  | z + 1, i => if l_sum f (i + 1) ≤ o then owL f o z (i + 1) else i
theorem owL_le (f : Nat → Int32) (o : Int32) : ∀ z i, owL f o z i ≤ i + z
  | 0, i => Nat.le_refl _
  | z + 1, i => by
    unfold owL
    split
    · have := owL_le f o z (i + 1); omega
    · omega
def likA (a b : Nat → Nat → Int32) : Nat → Nat → Int32 := fun j => match j with
  | 0 => cpy0 20 (b 0) (a 0)
  | 1 => cpy0 5 (b 1) (a 1)
  | 2 => cpy0 9 (b 2) (a 2)
  | 3 => cpy0 9 (b 3) (a 3)
  | 4 => cpy0 9 (b 4) (a 4)
  | 5 => cpy0 12 (b 5) (a 5)
  | 6 => cpy0 12 (b 6) (a 6)
  | 7 => cpy0 6 (b 7) (a 7)
  | 8 => cpy0 6 (b 8) (a 8)
  | 9 => cpy0 6 (b 9) (a 9)
  | 10 => cpy0 6 (b 10) (a 10)
  | _ => fun _ => 0
def lik (c e : Ch) : Ch := (e.1, likA c.2 e.2)
def chW2 (c e : Ch) : Wd := chW c ++ (chW e).map (rc (fun k => if k < 16 then k else k + 20))
def dTh (f : Nat → Int32) (h : Int64) : Nat → Int64
  | 0 => h
  | i + 1 => dg (dTh f h i) (f i)
def dDo (f : Nat → Int32) (w : Int32) (h : Int64) : Nat → Int64
  | 0 => h
  | i + 1 => dg (dg (dDo f w h i) (f i)) (if bitOn w i then 1 else 0)
def dPi (a : Nat → Nat → Int32) (h : Int64) : Nat → Int64
  | 0 => h
  | i + 1 => dg (dg (dg (dPi a h i) (a 2 i)) (a 3 i)) (a 4 i)
def cDig (c : Ch) (n d p : Nat) (h : Int64) : Int64 := dPi c.2 (dDo (c.2 1) (c.1 5) (dTh (c.2 0) h n) d) p
section Cham3
variable {c : Ch} {n s d p u k : Nat} {Q : Int32 → Wd → Prop}
theorem S_slicesOwed (hn : c.1 0 = nI n) (hn2 : n ≤ 20) (h : Q (nI (owL (c.2 0) (c.1 2) n 0)) (chW c)) : CallI kX1_slicesOwed [.ref 16] (chW c) Q := by
  refine e_X1_slicesOwed ?_
  refine iX1_slicesOwed_0 (iX1_slicesOwed_1 rfl ?_)
  have key : ∀ i, i ≤ n → owL (c.2 0) (c.1 2) (n - i) i = owL (c.2 0) (c.1 2) n 0 → V kX1_slicesOwed 2 [some (.ref 16), some (.int (nI i))] [] (chW c) 0 0 (qI Q) := by
    refine dn n ?_
    intro i hi ih he
    refine iX1_slicesOwed_2 (iX1_slicesOwed_3 (iX1_slicesOwed_4 rfl rfl ?_))
    rw [hn]
    refine iX1_slicesOwed_7 (fun g => ?_) (fun g => ?_)
    · have e := eq_of hi (by omega) g
      subst e
      refine iX1_slicesOwed_30 ?_
      refine iX1_slicesOwed_31 ?_
      rw [← he, Nat.sub_self] at h
      exact h
    · have hlt := nlt_of (by omega) g
      have ih := ih hlt
      have e1 : nI i + 1 = nI (i + 1) := nI_1 i
      have e2 : owL (c.2 0) (c.1 2) (n - i) i = if l_sum (c.2 0) (i + 1) ≤ c.1 2 then owL (c.2 0) (c.1 2) (n - (i + 1)) (i + 1) else i := by
        rw [show n - i = (n - (i + 1)) + 1 by omega]
        rfl
      refine iX1_slicesOwed_10 (iX1_slicesOwed_11 (iX1_slicesOwed_12 (iX1_slicesOwed_13 ?_)))
      rw [e1]
      refine iX1_slicesOwed_14 rfl (Nat.le_of_ble_eq_true rfl) (S_waxAbove hn hn2 (by omega) (iX1_slicesOwed_17 (iX1_slicesOwed_18 rfl rfl ?_)))
      refine iX1_slicesOwed_21 (fun g2 => ?_) (fun g2 => ?_)
      · rw [if_neg (i32_ltn g2)] at e2
        refine iX1_slicesOwed_30 ?_
        refine iX1_slicesOwed_31 ?_
        rw [← he, e2] at h
        exact h
      · rw [if_pos (i32_nlt g2)] at e2
        refine iX1_slicesOwed_24 rfl (iX1_slicesOwed_27 ?_)
        rw [e1]
        exact ih (e2.symm.trans he)
  exact key 0 (Nat.zero_le _) rfl
abbrev plB2 : List Nat := [6, 7, 8, 9, 10, 11, 12, 13, 14, 15, 16, 17, 26, 27, 28, 29, 30, 31, 32, 33, 34, 35, 36, 37]
theorem S_cDigest {g : Int64} {Q : Int64 → Wd → Prop} (hn : c.1 0 = nI n) (hn2 : n ≤ 20) (hd : c.1 4 = nI d) (hd2 : d ≤ 5) (hp : c.1 6 = nI p) (hp2 : p ≤ 9) (h : Q (cDig c n d p g) (chW c)) : CallL kX1_digestFrom [.ref 16, .long g] (chW c) Q := by
  refine e_X1_digestFrom ?_
  refine iX1_digestFrom_0 (iX1_digestFrom_1 rfl (iX1_digestFrom_2 (iX1_digestFrom_3 rfl ?_)))
  have k3 : ∀ i, i ≤ p → ∀ hh : Int64, dPi c.2 hh p = cDig c n d p g → V kX1_digestFrom 93 [some (.ref 16), some (.long g), none, some (.long (dPi c.2 hh i)), none, some (.int (nI i))] [] (chW c) 0 0 (qL Q) := by
    refine dn p ?_
    intro i hi ih hh he
    refine iX1_digestFrom_93 (iX1_digestFrom_95 (iX1_digestFrom_96 rfl rfl ?_))
    rw [hp]
    refine iX1_digestFrom_99 (fun z => ?_) (fun z => ?_)
    · have e := eq_of hi (by omega) z
      subst e
      refine iX1_digestFrom_153 ?_
      refine iX1_digestFrom_154 ?_
      rw [he]
      exact h
    · have hlt := nlt_of (by omega) z
      have ih := ih hlt hh he
      have e1 : nI i + 1 = nI (i + 1) := nI_1 i
      refine iX1_digestFrom_102 (iX1_digestFrom_105 (iX1_digestFrom_106 (iX1_digestFrom_107 (iX1_digestFrom_108 rfl rfl (iX1_digestFrom_111 (iX1_digestFrom_113 rfl rfl (by omega) (by decide) (iX1_digestFrom_114 (iX1_digestFrom_115 (iX1_digestFrom_116 rfl (iX1_digestFrom_117 (iX1_digestFrom_120 (iX1_digestFrom_121 (iX1_digestFrom_122 (iX1_digestFrom_123 rfl rfl (iX1_digestFrom_126 (iX1_digestFrom_128 rfl rfl (by omega) (by decide) (iX1_digestFrom_129 (iX1_digestFrom_130 (iX1_digestFrom_131 rfl (iX1_digestFrom_132 (iX1_digestFrom_135 (iX1_digestFrom_136 (iX1_digestFrom_137 (iX1_digestFrom_138 rfl rfl (iX1_digestFrom_141 (iX1_digestFrom_143 rfl rfl (by omega) (by decide) (iX1_digestFrom_144 (iX1_digestFrom_145 (iX1_digestFrom_146 rfl (iX1_digestFrom_147 rfl (iX1_digestFrom_150 ?_)))))))))))))))))))))))))))))))
      rw [e1]
      exact ih
  have k2 : ∀ i, i ≤ d → ∀ hh : Int64, dPi c.2 (dDo (c.2 1) (c.1 5) hh d) p = cDig c n d p g → V kX1_digestFrom 38 [some (.ref 16), some (.long g), none, some (.long (dDo (c.2 1) (c.1 5) hh i)), none, some (.int (nI i))] [] (chW c) 0 0 (qL Q) := by
    refine dn d ?_
    intro i hi ih hh he
    refine iX1_digestFrom_38 (iX1_digestFrom_40 (iX1_digestFrom_41 rfl rfl ?_))
    rw [hd]
    refine iX1_digestFrom_44 (fun z => ?_) (fun z => ?_)
    · have e := eq_of hi (by omega) z
      subst e
      refine iX1_digestFrom_90 (iX1_digestFrom_91 rfl ?_)
      exact k3 0 (Nat.zero_le _) _ he
    · have hlt := nlt_of (by omega) z
      have ih := ih hlt hh he
      have e1 : nI i + 1 = nI (i + 1) := nI_1 i
      have e2 : dDo (c.2 1) (c.1 5) hh (i + 1) = dg (dg (dDo (c.2 1) (c.1 5) hh i) (c.2 1 i)) (if bitOn (c.1 5) i then 1 else 0) := rfl
      refine iX1_digestFrom_47 (iX1_digestFrom_50 (iX1_digestFrom_51 (iX1_digestFrom_52 (iX1_digestFrom_53 rfl rfl (iX1_digestFrom_56 (iX1_digestFrom_58 rfl rfl (by omega) (by decide) (iX1_digestFrom_59 (iX1_digestFrom_60 (iX1_digestFrom_61 rfl (iX1_digestFrom_62 (iX1_digestFrom_65 (iX1_digestFrom_66 (iX1_digestFrom_67 (iX1_digestFrom_68 ?_))))))))))))))
      refine iX1_digestFrom_70 rfl (Nat.le_of_ble_eq_true rfl) (S_isOpen (fun b => ?_) (fun b => ?_))
      · rw [if_pos b] at e2
        rw [e2] at ih
        refine iX1_digestFrom_73 (fun h => False.elim (by revert h; decide)) (fun _ => (iX1_digestFrom_76 (iX1_digestFrom_77 (iX1_digestFrom_81 (iX1_digestFrom_82 (iX1_digestFrom_83 rfl (iX1_digestFrom_84 rfl (iX1_digestFrom_87 ?_))))))))
        rw [e1]
        exact ih
      · rw [if_neg b] at e2
        rw [e2] at ih
        refine iX1_digestFrom_73 (fun _ => (iX1_digestFrom_80 (iX1_digestFrom_81 (iX1_digestFrom_82 (iX1_digestFrom_83 rfl (iX1_digestFrom_84 rfl (iX1_digestFrom_87 ?_))))))) (fun h => False.elim (by revert h; decide))
        rw [e1]
        exact ih
  refine dn n (P := fun i => V kX1_digestFrom 5 [some (.ref 16), some (.long g), none, some (.long (dTh (c.2 0) g i)), none, some (.int (nI i))] [] (chW c) 0 0 (qL Q)) ?_ 0 (Nat.zero_le _)
  intro i hi ih
  refine iX1_digestFrom_5 (iX1_digestFrom_7 (iX1_digestFrom_8 rfl rfl ?_))
  rw [hn]
  refine iX1_digestFrom_11 (fun z => ?_) (fun z => ?_)
  · have e := eq_of hi (by omega) z
    subst e
    refine iX1_digestFrom_35 (iX1_digestFrom_36 rfl ?_)
    exact k2 0 (Nat.zero_le _) _ rfl
  · have hlt := nlt_of (by omega) z
    have ih := ih hlt
    have e1 : nI i + 1 = nI (i + 1) := nI_1 i
    refine iX1_digestFrom_14 (iX1_digestFrom_17 (iX1_digestFrom_18 (iX1_digestFrom_19 (iX1_digestFrom_20 rfl rfl (iX1_digestFrom_23 (iX1_digestFrom_25 rfl rfl (by omega) (by decide) (iX1_digestFrom_26 (iX1_digestFrom_27 (iX1_digestFrom_28 rfl (iX1_digestFrom_29 rfl (iX1_digestFrom_32 ?_)))))))))))
    rw [e1]
    exact ih
end Cham3
