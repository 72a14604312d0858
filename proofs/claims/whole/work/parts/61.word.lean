def wcs : List Int32 := [180500515, 11642132, 605668, 464399, 14640, 609301677]
theorem wch : ∀ w, w < 6 → ∀ i, i < wdLen.getD w 0 → 96 + ((wcs.getD w 0 >>> ((5 * nI i) &&& 31)) &&& 31) = (wdByt.getD w []).getD i 0 := by decide +kernel
theorem wlen : ∀ w, w < 6 → wdLen.getD w 0 ≤ 6 := by decide
section MWord
variable {R T K D s : Nat → Int32} {s0 e w : Nat} {Q : Int32 → Wd → Prop}
theorem M_isWord (hw : w < 6) (hp : s 6 = nI s0) (he : s 7 = nI e) (hse : s0 ≤ e) (he2 : e ≤ 150) (h1 : spl T s0 e w → Q 1 (mW R T K D s)) (h0 : ¬ spl T s0 e w → Q 0 (mW R T K D s)) : CallI kX11_isWord [.ref 16, .int (wcs.getD w 0), .int (nI (wdLen.getD w 0))] (mW R T K D s) Q := by
  refine e_X11_isWord ?_
  have hch := wch w hw
  have hln := wlen w hw
  unfold spl at h1 h0
  generalize wdLen.getD w 0 = n at h1 h0 hch hln
  generalize wcs.getD w 0 = W at hch
  have out0 : ¬ (e - s0 = n ∧ ∀ i, i < n → T (s0 + i) = (wdByt.getD w []).getD i 0) → ∀ x4, V kX11_isWord 22 [some (.ref 16), some (.int W), some (.int (nI n)), some (.int 0), x4] [] (mW R T K D s) 0 0 (qI Q) := by
    intro q x4
    refine iX11_isWord_22 (iX11_isWord_23 (fun _ => (iX11_isWord_71 ?_)) (fun h => False.elim (by revert h; decide)))
    exact iX11_isWord_72 rfl (h0 q)
  refine iX11_isWord_0 (iX11_isWord_1 rfl rfl (iX11_isWord_4 (iX11_isWord_5 rfl rfl ?_)))
  rw [hp, he]
  refine iX11_isWord_8 ?_
  rw [nI_sub hse]
  refine iX11_isWord_9 ?_
  refine iX11_isWord_10 (fun g => ?_) (fun g => ?_)
  · refine iX11_isWord_17 (iX11_isWord_18 rfl (iX11_isWord_19 (iX11_isWord_20 rfl ?_)))
    exact out0 (fun z => g (by rw [z.1])) _
  · have hen : e - s0 = n := (nI_eq (by omega) (by omega)).mp g
    refine iX11_isWord_13 (iX11_isWord_14 (iX11_isWord_18 rfl (iX11_isWord_19 (iX11_isWord_20 rfl ?_))))
    have key : ∀ j, j ≤ n → (∀ i, i < j → T (s0 + i) = (wdByt.getD w []).getD i 0) → V kX11_isWord 22 [some (.ref 16), some (.int W), some (.int (nI n)), some (.int 1), some (.int (nI j))] [] (mW R T K D s) 0 0 (qI Q) := by
      refine dn n ?_
      intro j hj ih hall
      refine iX11_isWord_22 (iX11_isWord_23 (fun h => False.elim (by revert h; decide)) (fun _ => (iX11_isWord_26 (iX11_isWord_28 ?_))))
      refine iX11_isWord_29 (fun g2 => ?_) (fun g2 => ?_)
      · have ej := eq_of hj (by omega) g2
        subst ej
        refine iX11_isWord_71 ?_
        exact iX11_isWord_72 rfl (h1 ⟨hen, hall⟩)
      · have hlt := nlt_of (by omega) g2
        have e1 : nI j + 1 = nI (j + 1) := nI_1 j
        refine iX11_isWord_32 (iX11_isWord_33 rfl rfl (iX11_isWord_36 (iX11_isWord_37 rfl rfl ?_)))
        rw [hp]
        refine iX11_isWord_40 (iX11_isWord_42 (iX11_isWord_43 rfl (nI_add s0 j) (by omega) (by decide) (iX11_isWord_44 (iX11_isWord_46 (iX11_isWord_47 (iX11_isWord_48 (iX11_isWord_50 (iX11_isWord_51 (iX11_isWord_52 (iX11_isWord_54 ?_))))))))))
        refine iX11_isWord_55 ?_
        rw [hch j hlt]
        refine iX11_isWord_56 (fun g3 => ?_) (fun g3 => ?_)
        · refine iX11_isWord_63 (iX11_isWord_64 rfl (iX11_isWord_65 rfl (iX11_isWord_68 ?_)))
          exact out0 (fun z => g3 (z.2 j hlt)) _
        · refine iX11_isWord_59 (iX11_isWord_60 (iX11_isWord_64 rfl (iX11_isWord_65 rfl (iX11_isWord_68 ?_))))
          rw [e1]
          refine ih hlt (fun i hi => ?_)
          rcases Nat.lt_or_ge i j with a | a
          · exact hall i a
          · have : i = j := by omega
            subst this
            exact g3
    exact key 0 (Nat.zero_le _) (fun i hi => absurd hi (by omega))
end MWord
