/-- the reference's state at the token from p on -/
def tkA (s T : Nat → Int32) (l p : Nat) : Nat → Int32 := tkM s (nI (tE T l (tS T l p))) (nI (tS T l p)) (nI (tE T l (tS T l p)))
theorem tkA_tkA (s T : Nat → Int32) (l p q : Nat) : tkM (tkA s T l p) (nI (tE T l (tS T l q))) (nI (tS T l q)) (nI (tE T l (tS T l q))) = tkA s T l q := by
  funext j
  unfold tkA tkM
  by_cases h5 : j = 5
  · rw [if_pos h5, if_pos h5]
  · by_cases h6 : j = 6
    · rw [if_neg h5, if_pos h6, if_neg h5, if_pos h6]
    · by_cases h7 : j = 7
      · rw [if_neg h5, if_neg h6, if_pos h7, if_neg h5, if_neg h6, if_pos h7]
      · rw [if_neg h5, if_neg h6, if_neg h7, if_neg h5, if_neg h6, if_neg h7, if_neg h5, if_neg h6, if_neg h7]
theorem tE_le {T : Nat → Int32} {l p : Nat} (hp : p ≤ l) : tS T l p ≤ l ∧ tS T l p ≤ tE T l (tS T l p) ∧ tE T l (tS T l p) ≤ l := by
  have h := tkR_le (f := T) hp
  rw [tk_place, tk_end] at h
  omega
section RItem
variable {R T K D s : Nat → Int32} {l p rm k : Nat} {Q : Int32 → Wd → Prop}
theorem A_reads (hl : s 0 = nI l) (hl2 : l ≤ 150) (hp : p ≤ l) (hr : s 8 = nI rm) (hk : 5 * rm + 1 + k < 150) (h1 : (tkR T l p).1 = 1 → Q 1 (mW R T K (upd D (5 * rm + 1 + k) (tkR T l p).2.2.1) (tkA s T l (tkR T l p).2.2.2))) (h0 : ¬ (tkR T l p).1 = 1 → Q 0 (mW R T K D (tkA s T l p))) : CallI kX11_reads [.ref 16, .int (nI k)] (mW R T K D (tkA s T l p)) Q := by
  have hle := tE_le (T := T) hp
  refine M_reads (s := tkA s T l p) (s0 := tS T l p) (e := tE T l (tS T l p)) hl hl2 rfl rfl rfl hr hle.2.1 hle.2.2 hk (fun a b c => ?_) (fun a => h0 (fun z => a (tk_num.mp z)))
  have z := tk_num.mpr ⟨a, b, c⟩
  have h1 := h1 z
  rw [tk_val z, tk_end] at h1
  rw [tkA_tkA]
  exact h1
theorem A_token (hl : s 0 = nI l) (hl2 : l ≤ 150) (hp : p ≤ l) {Q : Wd → Prop} (h : Q (mW R T K D (tkA s T l (tkR T l p).2.2.2))) : CallV kX11_token [.ref 16] (mW R T K D (tkA s T l p)) Q := by
  have hle := tE_le (T := T) hp
  refine M_token (s := tkA s T l p) (q := tE T l (tS T l p)) hl hl2 rfl hle.2.2 ?_
  rw [tk_end] at h
  rw [tkA_tkA]
  exact h
theorem A_word (hp : p ≤ l) (hl2 : l ≤ 150) (h : Q (if (tkR T l p).1 = 0 then (tkR T l p).2.2.1 else -1) (mW R T K D (tkA s T l p))) : CallI kX11_itemWord [.ref 16] (mW R T K D (tkA s T l p)) Q := by
  have hle := tE_le (T := T) hp
  refine M_itemWord (s := tkA s T l p) (s0 := tS T l p) (e := tE T l (tS T l p)) rfl rfl hle.2.1 (by omega) ?_
  rw [tk_word]
  exact h
end RItem
