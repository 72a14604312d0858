def Tie (c : Ch) (R : Nat → Int32) (B : Nat) : Prop := ∃ n d p u k, Rl c R n d p u k ∧ In c n d u B
def bmp (s : Nat → Int32) (a : Int32) : Nat → Int32 := if a = -2 then bump s 1 else if a = -3 then bump s 2 else if a = -4 then bump s 3 else s
theorem bmp_2 (s : Nat → Int32) : bmp s (-2) = bump s 1 := if_pos rfl
theorem bmp_3 (s : Nat → Int32) : bmp s (-3) = bump s 2 := by
  unfold bmp
  rw [if_neg (by decide), if_pos rfl]
theorem bmp_4 (s : Nat → Int32) : bmp s (-4) = bump s 3 := by
  unfold bmp
  rw [if_neg (by decide), if_neg (by decide), if_pos rfl]
theorem bmp_p {s : Nat → Int32} {a : Int32} (h : ¬ a < 0) : bmp s a = s := by
  unfold bmp
  rw [if_neg (fun e => h (by rw [e]; decide)), if_neg (fun e => h (by rw [e]; decide)), if_neg (fun e => h (by rw [e]; decide))]
theorem bmp_n {s : Nat → Int32} {m : Nat} (h : m < 2147483648) : bmp s (nI m) = s := bmp_p (nI_pos h)
theorem bmp_1 {s : Nat → Int32} {m : Nat} : bmp s 1 = s := bmp_p (by decide)
theorem bump_si {s : Nat → Int32} (h : ¬ s 4 = 0) (i : Nat) : bump s i = s := if_neg h
theorem bmp_si {s : Nat → Int32} (h : ¬ s 4 = 0) (a : Int32) : bmp s a = s := by
  unfold bmp
  rw [bump_si h, bump_si h, bump_si h]
  split
  · rfl
  · split
    · rfl
    · split
      · rfl
      · rfl
theorem dr_far {R : Nat → Int32} {d : Nat} {x : Int32} (hd : d < 5) {j : Nat} (hj : 113 ≤ j) : drR R d x j = R j := by
  unfold drR
  rw [upN (by omega), upN (by omega), upN (by omega)]
theorem pn_far {R : Nat → Int32} {p : Nat} {x y : Int32} (hp : p < 9) {j : Nat} (hj : 113 ≤ j) : pnR R p x y j = R j := by
  unfold pnR
  rw [upN (by omega), upN (by omega), upN (by omega), upN (by omega)]
theorem mb_far {R : Nat → Int32} {k : Nat} {x y z t : Int32} (hk : k < 6) {j : Nat} (hj : 113 ≤ j) : mbR R k x y z t j = R j := by
  unfold mbR
  rw [upN (by omega), upN (by omega), upN (by omega), upN (by omega), upN (by omega)]
theorem bg_far {R : Nat → Int32} {m : Nat} {j : Nat} (hj : 113 ≤ j) : bgR R m j = R j := by
  unfold bgR bgL
  rw [upN (by omega), if_neg (by omega)]
theorem un_far {R : Nat → Int32} {v : Nat} {j : Nat} (hj : 113 ≤ j) : unR R v j = R j := by
  unfold unR
  rw [upN (by omega), upN (by omega), upN (by omega), upN (by omega)]
section TieS
variable {c : Ch} {R T K D s : Nat → Int32} {B : Nat} {x y z t : Int32} {Q : Int32 → Wd → Prop}
theorem G_thick (ti : Tie c R B) (h : ∀ R', Tie (fThick c x y).2 R' B → (∀ j, 113 ≤ j → R' j = R j) → Q (fThick c x y).1 (mW R' T K D (bmp s (fThick c x y).1))) : CallI kX11_thick [.ref 16, .int x, .int y] (mW R T K D s) Q := by
  obtain ⟨n, d, p, u, k, r, iv⟩ := ti
  have hn := r.ok.2.1.1.1
  have hn2 := r.ok.2.1.1.2
  unfold fThick at h
  rw [hn] at h
  refine N_thick r (fun a => ?_) (fun q hq e y1 g => ?_) (fun q hq e y1 g => ?_)
  · rw [if_neg a] at h
    rw [← bmp_2]
    exact h R ⟨n, d, p, u, k, r, iv⟩ (fun _ _ => rfl)
  · subst e
    rw [if_pos ⟨ix_in (by omega) hq, y1⟩, tn_nI (by omega), if_pos g] at h
    rw [← bmp_3]
    exact h R ⟨n, d, p, u, k, r, iv⟩ (fun _ _ => rfl)
  · subst e
    rw [if_pos ⟨ix_in (by omega) hq, y1⟩, tn_nI (by omega), if_neg g] at h
    obtain ⟨m, hm, em⟩ := iv.1.1 q hq
    have := h (upd R (4 + q) y) ⟨n, d, p, u, k, K_thick r hq, In_thick iv hn2 hq y1 g⟩ (fun j hj => upN (by omega))
    rw [em, bmp_n (by omega)] at this
    rw [em]
    exact this
theorem G_door (ti : Tie c R B) (h : ∀ R', Tie (fDoor c x).2 R' B → (∀ j, 113 ≤ j → R' j = R j) → Q (fDoor c x).1 (mW R' T K D (bmp s (fDoor c x).1))) : CallI kX11_door [.ref 16, .int x] (mW R T K D s) Q := by
  obtain ⟨n, d, p, u, k, r, iv⟩ := ti
  have hd := r.ok.2.1.2.1.1
  have hd2 := r.ok.2.1.2.1.2
  unfold fDoor at h
  rw [hd] at h
  refine N_door r (fun a => ?_) (fun a e => ?_) (fun a e => ?_)
  · rw [if_neg a] at h
    rw [← bmp_2]
    exact h R ⟨n, d, p, u, k, r, iv⟩ (fun _ _ => rfl)
  · subst e
    rw [if_pos a, if_pos (show nI 5 = 5 from rfl)] at h
    rw [← bmp_4]
    exact h R ⟨n, 5, p, u, k, r, iv⟩ (fun _ _ => rfl)
  · rw [if_pos a, if_neg (show ¬ nI d = 5 from i32_ne9 (N := 5) (by omega) (by omega) (by omega)), tn_nI (by omega), nI_1] at h
    have := h (drR R d x) ⟨n, d + 1, p, u, k, K_door r e iv.2.1, In_door iv a⟩ (fun j hj => dr_far e hj)
    rw [bmp_n (by omega)] at this
    exact this
theorem G_open (hy : y = 0 ∨ y = 1) (ti : Tie c R B) (h : ∀ R', Tie (fOpen c x y).2 R' B → (∀ j, 113 ≤ j → R' j = R j) → Q (fOpen c x y).1 (mW R' T K D (bmp s (fOpen c x y).1))) : CallI kX11_openDoor [.ref 16, .int x, .int y] (mW R T K D s) Q := by
  obtain ⟨n, d, p, u, k, r, iv⟩ := ti
  have hd := r.ok.2.1.2.1.1
  have hd2 := r.ok.2.1.2.1.2
  have tr : ∀ q, ((if bitOn (c.1 5) q then (1 : Int32) else 0) = y ↔ (bitOn (c.1 5) q ↔ y = 1)) := fun q => by
    by_cases b : bitOn (c.1 5) q
    · rw [if_pos b]
      exact ⟨fun e => ⟨fun _ => e.symm, fun _ => b⟩, fun e => (e.mp b).symm⟩
    · rw [if_neg b]
      refine ⟨fun e => ⟨fun f => absurd f b, fun f => ?_⟩, fun e => ?_⟩
      · rw [← e] at f
        exact absurd f (by decide)
      · rcases hy with g | g
        · exact g.symm
        · exact absurd (e.mpr g) b
  unfold fOpen at h
  rw [hd] at h
  refine M_openDoor r (fun a => ?_) (fun q hq e g => ?_) (fun q hq e g => ?_)
  · rw [if_neg a] at h
    rw [← bmp_2]
    exact h R ⟨n, d, p, u, k, r, iv⟩ (fun _ _ => rfl)
  · subst e
    rw [if_pos (ix_in (by omega) hq), tn_nI (by omega), if_pos ((tr q).mp g)] at h
    rw [← bmp_3]
    exact h R ⟨n, d, p, u, k, r, iv⟩ (fun _ _ => rfl)
  · subst e
    have g2 : ¬ (bitOn (c.1 5) q ↔ y = 1) := fun f => g ((tr q).mpr f)
    rw [if_pos (ix_in (by omega) hq), tn_nI (by omega), if_neg g2] at h
    have := h (upd R (25 + 2 * q + 1) y) ⟨n, d, p, u, k, K_open r hq iv.2.1 hy g2, In_open iv hd2 hq⟩ (fun j hj => upN (by omega))
    rw [bmp_p (show ¬ (1 : Int32) < 0 by decide)] at this
    exact this
theorem G_pin (ti : Tie c R B) (h : ∀ R', Tie (fPin c x y).2 R' B → (∀ j, 113 ≤ j → R' j = R j) → Q (fPin c x y).1 (mW R' T K D (bmp s (fPin c x y).1))) : CallI kX11_pin [.ref 16, .int x, .int y] (mW R T K D s) Q := by
  obtain ⟨n, d, p, u, k, r, iv⟩ := ti
  have hn := r.ok.2.1.1.1
  have hn2 := r.ok.2.1.1.2
  have hp := r.ok.2.2.1.1.1
  have hp2 := r.ok.2.2.1.1.2
  unfold fPin at h
  rw [hn, hp] at h
  refine N_pin r (fun a => ?_) (fun q hq e a g => ?_) (fun q hq e a g f => ?_) (fun q hq e a g f => ?_)
  · rw [if_neg a] at h
    rw [← bmp_2]
    exact h R ⟨n, d, p, u, k, r, iv⟩ (fun _ _ => rfl)
  · subst e
    rw [if_pos ⟨a, ix_in (by omega) hq⟩, tn_nI (by omega), if_pos g] at h
    rw [← bmp_3]
    exact h R ⟨n, d, p, u, k, r, iv⟩ (fun _ _ => rfl)
  · subst e
    subst f
    rw [if_pos ⟨a, ix_in (by omega) hq⟩, tn_nI (by omega), if_neg g, if_pos (show nI 9 = 9 from rfl)] at h
    rw [← bmp_4]
    exact h R ⟨n, d, 9, u, k, r, iv⟩ (fun _ _ => rfl)
  · subst e
    rw [if_pos ⟨a, ix_in (by omega) hq⟩, tn_nI (n := q) (by omega), if_neg g, if_neg (show ¬ nI p = 9 from i32_ne9 (N := 9) (by omega) (by omega) (by omega)), tn_nI (by omega), nI_1] at h
    have := h (pnR R p x (nI q)) ⟨n, d, p + 1, u, k, K_pin r f hq rfl, In_pin iv⟩ (fun j hj => pn_far f hj)
    rw [bmp_n (by omega)] at this
    exact this
theorem G_member (ti : Tie c R B) (h : ∀ R', Tie (fMember c x y z t).2 R' B → (∀ j, 113 ≤ j → R' j = R j) → Q (fMember c x y z t).1 (mW R' T K D (bmp s (fMember c x y z t).1))) : CallI kX11_member [.ref 16, .int x, .int y, .int z, .int t] (mW R T K D s) Q := by
  obtain ⟨n, d, p, u, k, r, iv⟩ := ti
  have hk := r.ok.2.1.2.2.1
  have hk2 := r.ok.2.1.2.2.2.1
  unfold fMember at h
  rw [hk] at h
  refine N_member r (fun a => ?_) (fun a f => ?_) (fun a f => ?_)
  · rw [if_neg a] at h
    rw [← bmp_2]
    exact h R ⟨n, d, p, u, k, r, iv⟩ (fun _ _ => rfl)
  · subst f
    rw [if_pos a, if_pos (show nI 6 = 6 from rfl)] at h
    rw [← bmp_4]
    exact h R ⟨n, d, p, u, 6, r, iv⟩ (fun _ _ => rfl)
  · rw [if_pos a, if_neg (show ¬ nI k = 6 from i32_ne9 (N := 6) (by omega) (by omega) (by omega)), tn_nI (by omega), nI_1] at h
    obtain ⟨j, hj, ex⟩ := nI_of2 (M := 5) (n := 5) (by decide) (i32_len a.1.1) a.1.2
    have := h (mbR R k x y z t) ⟨n, d, p, u, k + 1, K_member r f (q := j) (by omega) ex, In_member iv⟩ (fun j hj => mb_far f hj)
    rw [bmp_n (by omega)] at this
    exact this
theorem G_drop (ti : Tie c R B) (h : ∀ R', Tie (fDrop c x).2 R' B → (∀ j, 113 ≤ j → R' j = R j) → Q (fDrop c x).1 (mW R' T K D (bmp s (fDrop c x).1))) : CallI kX11_drop [.ref 16, .int x] (mW R T K D s) Q := by
  obtain ⟨n, d, p, u, k, r, iv⟩ := ti
  have hp := r.ok.2.2.1.1.1
  have hp2 := r.ok.2.2.1.1.2
  have hk := r.ok.2.1.2.2.1
  have hk2 := r.ok.2.1.2.2.2.1
  unfold fDrop fDropP fDropM at h
  rw [hk, hp] at h
  refine N_drop r (fun a => ?_) (fun a => ?_) (fun e v hv => ?_) (fun e v hv => ?_)
  · have n0 : ¬ x = 0 := fun e => a (by rw [e]; decide)
    have n1 : ¬ x = 1 := fun e => a (by rw [e]; decide)
    rw [if_neg n0, if_neg n1] at h
    rw [← bmp_2]
    exact h R ⟨n, d, p, u, k, r, iv⟩ (fun _ _ => rfl)
  · rw [← bmp_3]
    rcases a with ⟨e, f⟩ | ⟨e, f⟩
    · subst e
      subst f
      rw [if_pos rfl, if_pos (show nI 0 = 0 from rfl)] at h
      exact h R ⟨n, d, 0, u, k, r, iv⟩ (fun _ _ => rfl)
    · subst e
      subst f
      rw [if_neg (show ¬ (1 : Int32) = 0 by decide), if_pos rfl, if_pos (show nI 0 = 0 from rfl)] at h
      exact h R ⟨n, d, p, u, 0, r, iv⟩ (fun _ _ => rfl)
  · subst e
    subst hv
    rw [if_pos rfl, if_neg (show ¬ nI (v + 1) = 0 from i32_ne9 (N := 0) (by omega) (by omega) (by omega)), nI_pred] at h
    have := h (upd R 35 (nI v)) ⟨n, d, v, u, k, K_dropP r, In_dropP iv⟩ (fun j hj => upN (by omega))
    rw [bmp_n (by omega)] at this
    exact this
  · subst e
    subst hv
    rw [if_neg (show ¬ (1 : Int32) = 0 by decide), if_pos rfl, if_neg (show ¬ nI (v + 1) = 0 from i32_ne9 (N := 0) (by omega) (by omega) (by omega)), nI_pred] at h
    have := h (upd R 63 (nI v)) ⟨n, d, p, u, v, K_dropM r, In_dropM iv⟩ (fun j hj => upN (by omega))
    rw [bmp_n (by omega)] at this
    exact this
theorem G_undo (ti : Tie c R B) (h : ∀ R', Tie (fBack c).2 R' B → (∀ j, 113 ≤ j → R' j = R j) → Q (fBack c).1 (mW R' T K D (bmp s (fBack c).1))) : CallI kX11_undo [.ref 16] (mW R T K D s) Q := by
  obtain ⟨n, d, p, u, k, r, iv⟩ := ti
  have hu := r.ok.2.2.2.1
  have hu2 := r.ok.2.2.2.2
  unfold fBack at h
  rw [hu] at h
  refine N_undo r (fun a => ?_) (fun v hv => ?_)
  · subst a
    rw [if_pos (show nI 0 = 0 from rfl)] at h
    rw [← bmp_3]
    exact h R ⟨n, d, p, 0, k, r, iv⟩ (fun _ _ => rfl)
  · subst hv
    rw [if_neg (show ¬ nI (v + 1) = 0 from i32_ne9 (N := 0) (by omega) (by omega) (by omega)), nI_pred, tn_nI (by omega)] at h
    have := h (unR R v) ⟨n, d, p, v, k, K_back r, iv.back⟩ (fun j hj => un_far hj)
    rw [bmp_p (show ¬ (1 : Int32) < 0 by decide)] at this
    exact this
end TieS
