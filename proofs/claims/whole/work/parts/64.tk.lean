theorem tk_place (f : Nat → Int32) (l p : Nat) : (tkR f l p).2.1 = tS f l p := by
  unfold tkR
  split
  · rfl
  · split
    · rfl
    · split
      · rfl
      · rfl
theorem tk_end (f : Nat → Int32) (l p : Nat) : (tkR f l p).2.2.2 = tE f l (tS f l p) := by
  unfold tkR tE
  split
  · rfl
  · split
    · rfl
    · split
      · rfl
      · rfl
theorem isL_F {f : Nat → Int32} {i : Nat} (h : isL f i = true) : ¬ isF f i = true := fun g => by
  have a := srt1.mpr h
  have b := srt2.mpr g
  rw [a] at b
  exact absurd b (by decide)
theorem spl_L {f : Nat → Int32} {s e w : Nat} (hw : w < 6) (h : spl f s e w) : isL f s = true ∧ s < e := by
  have h0 : 0 < wdLen.getD w 0 := (by decide : ∀ w, w < 6 → 0 < wdLen.getD w 0) w hw
  have h1 := h.2 0 h0
  have h2 := (by decide : ∀ w, w < 6 → 97 ≤ (wdByt.getD w []).getD 0 0 ∧ (wdByt.getD w []).getD 0 0 ≤ 122) w hw
  rw [← h1] at h2
  refine ⟨?_, by have := h.1; omega⟩
  unfold isL
  rw [decide_eq_true_iff]
  exact h2
theorem tk_word {f : Nat → Int32} {l p : Nat} : wdF f (tS f l p) (tE f l (tS f l p)) 6 = if (tkR f l p).1 = 0 then (tkR f l p).2.2.1 else -1 := by
  by_cases h1 : l ≤ tS f l p
  · have e : tkR f l p = (3, tS f l p, -1, tS f l p) := by unfold tkR; rw [if_pos h1]
    rw [e, if_neg (show ¬ (3 : Int32) = 0 by decide)]
    refine wdF_none 6 (fun v hv q => ?_)
    have := (spl_L hv q).2
    unfold tE at this
    rw [if_pos h1] at this
    omega
  · by_cases h2 : isL f (tS f l p) = true
    · have e : tkR f l p = (0, tS f l p, wdF f (tS f l p) (tW f l (tS f l p)) 6, tW f l (tS f l p)) := by unfold tkR; rw [if_neg h1, if_pos h2]
      rw [e, if_pos rfl]
      unfold tE
      rw [if_neg h1, if_pos h2]
    · have hn : wdF f (tS f l p) (tE f l (tS f l p)) 6 = -1 := wdF_none 6 (fun v hv q => h2 (spl_L hv q).1)
      rw [hn]
      have : ¬ (tkR f l p).1 = 0 := by
        intro z
        exact h2 (tkR_word z).2.1
      rw [if_neg this]
theorem tk_num {f : Nat → Int32} {l p : Nat} : (tkR f l p).1 = 1 ↔ (tS f l p < l ∧ isF f (tS f l p) = true ∧ tE f l (tS f l p) - tS f l p ≤ 2) := by
  by_cases h1 : l ≤ tS f l p
  · have e : tkR f l p = (3, tS f l p, -1, tS f l p) := by unfold tkR; rw [if_pos h1]
    rw [e]
    exact ⟨fun z => absurd z (show ¬ (3 : Int32) = 1 by decide), fun z => by omega⟩
  · by_cases h2 : isL f (tS f l p) = true
    · have e : tkR f l p = (0, tS f l p, wdF f (tS f l p) (tW f l (tS f l p)) 6, tW f l (tS f l p)) := by unfold tkR; rw [if_neg h1, if_pos h2]
      rw [e]
      exact ⟨fun z => absurd z (show ¬ (0 : Int32) = 1 by decide), fun z => absurd z.2.1 (isL_F h2)⟩
    · by_cases h3 : isF f (tS f l p) = true
      · have e : (tkR f l p).1 = if tN f l (tS f l p) - tS f l p ≤ 2 then 1 else 4 := by unfold tkR; rw [if_neg h1, if_neg h2, if_pos h3]
        have e2 : tE f l (tS f l p) = tN f l (tS f l p) := by unfold tE; rw [if_neg h1, if_neg h2, if_pos h3]
        rw [e, e2]
        by_cases h4 : tN f l (tS f l p) - tS f l p ≤ 2
        · rw [if_pos h4]
          exact ⟨fun _ => ⟨by omega, h3, h4⟩, fun _ => rfl⟩
        · rw [if_neg h4]
          exact ⟨fun z => absurd z (by decide), fun z => absurd z.2.2 h4⟩
      · have e : (tkR f l p).1 = if f (tS f l p) = 59 then 2 else 4 := by unfold tkR; rw [if_neg h1, if_neg h2, if_neg h3]
        rw [e]
        refine ⟨fun z => ?_, fun z => absurd z.2.1 h3⟩
        split at z
        · exact absurd z (by decide)
        · exact absurd z (by decide)
theorem tk_val {f : Nat → Int32} {l p : Nat} (h : (tkR f l p).1 = 1) : (tkR f l p).2.2.1 = nvS f (tS f l p) (tE f l (tS f l p) - tS f l p) := by
  obtain ⟨h1, h3, h4⟩ := tk_num.mp h
  have h2 : ¬ isL f (tS f l p) = true := fun z => isL_F z h3
  have e : (tkR f l p).2.2.1 = nvS f (tS f l p) (tN f l (tS f l p) - tS f l p) := by
    unfold tkR
    rw [if_neg (show ¬ l ≤ tS f l p by omega), if_neg h2, if_pos h3]
  have e2 : tE f l (tS f l p) = tN f l (tS f l p) := by
    unfold tE
    rw [if_neg (show ¬ l ≤ tS f l p by omega), if_neg h2, if_pos h3]
  rw [e, e2]
theorem tk_semi {f : Nat → Int32} {l p : Nat} : (tkR f l p).1 = 2 ↔ (tS f l p < l ∧ f (tS f l p) = 59) := by
  by_cases h1 : l ≤ tS f l p
  · have e : tkR f l p = (3, tS f l p, -1, tS f l p) := by unfold tkR; rw [if_pos h1]
    rw [e]
    exact ⟨fun z => absurd z (show ¬ (3 : Int32) = 2 by decide), fun z => by omega⟩
  · by_cases h2 : isL f (tS f l p) = true
    · have e : tkR f l p = (0, tS f l p, wdF f (tS f l p) (tW f l (tS f l p)) 6, tW f l (tS f l p)) := by unfold tkR; rw [if_neg h1, if_pos h2]
      rw [e]
      refine ⟨fun z => absurd z (show ¬ (0 : Int32) = 2 by decide), fun z => ?_⟩
      unfold isL at h2
      rw [decide_eq_true_iff, z.2] at h2
      exact absurd h2.1 (by decide)
    · by_cases h3 : isF f (tS f l p) = true
      · have e : (tkR f l p).1 = if tN f l (tS f l p) - tS f l p ≤ 2 then 1 else 4 := by unfold tkR; rw [if_neg h1, if_neg h2, if_pos h3]
        rw [e]
        constructor
        · intro z
          split at z
          · exact absurd z (by decide)
          · exact absurd z (by decide)
        · intro z
          unfold isF at h3
          rw [decide_eq_true_iff, z.2] at h3
          exact absurd h3.2 (by decide)
      · have e : (tkR f l p).1 = if f (tS f l p) = 59 then 2 else 4 := by unfold tkR; rw [if_neg h1, if_neg h2, if_neg h3]
        rw [e]
        by_cases h4 : f (tS f l p) = 59
        · rw [if_pos h4]
          exact ⟨fun _ => ⟨by omega, h4⟩, fun _ => rfl⟩
        · rw [if_neg h4]
          exact ⟨fun z => absurd z (by decide), fun z => absurd z.2 h4⟩
