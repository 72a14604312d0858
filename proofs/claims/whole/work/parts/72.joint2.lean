section J2
variable {C : Nat → Ch} {F : Nat → Nat → Int32} {R T K D s : Nat → Int32} {B : Nat} {x y z t w : Int32}
theorem J_house (j : Jn C F R T K s B) : CallI kX10_house [.ref 16, .int t] (hW C F) (JQ kX11_house [.ref 16, .int t] R T K D s (B + 20)) := by
  obtain ⟨n, d, p, u, k, r, iv⟩ := j.1
  exact H_house r.ok (fun a => ⟨_, _, rfl, N_house r (fun _ => ⟨rfl, R, T, K, D, _, rfl, j.bad (by omega)⟩) (fun b c => absurd ⟨b, c⟩ a)⟩) (fun a b => ⟨_, _, rfl, N_house r (fun c => absurd ⟨a, b⟩ c) (fun _ _ => ⟨rfl, R, T, K, D, s, rfl, j.st (by omega)⟩)⟩)
theorem J_votes (j : Jn C F R T K s B) : CallI kX10_votes [.ref 16, .int x, .int t] (hW C F) (JQ kX11_votes [.ref 16, .int x, .int t] R T K D s (B + 20)) := by
  obtain ⟨n, d, p, u, k, r, iv⟩ := j.1
  exact H_votes r.ok (fun a => ⟨_, _, rfl, N_votes r (fun _ => ⟨rfl, R, T, K, D, _, rfl, j.bad (by omega)⟩) (fun b1 b2 b3 b4 => absurd ⟨⟨b1, b2⟩, ⟨b3, b4⟩⟩ a)⟩) (fun b1 b2 b3 b4 => ⟨_, _, rfl, N_votes r (fun a => absurd ⟨⟨b1, b2⟩, ⟨b3, b4⟩⟩ a) (fun _ _ _ _ => ⟨rfl, R, T, K, D, s, rfl, j.st (by omega)⟩)⟩)
theorem J_burns (j : Jn C F R T K s B) (hB : B < 100000) : CallI kX10_burns [.ref 16, .int t] (hW C F) (JQ kX11_burns [.ref 16, .int t] R T K D s (B + 20)) := by
  obtain ⟨n, d, p, u, k, r, iv⟩ := j.1
  have sm := iv.sm (by omega) r.ok.2.1.1.2
  exact H_burns r.ok (fun a => ⟨_, _, rfl, N_burns r sm (fun _ => ⟨rfl, R, T, K, D, _, rfl, j.bad (by omega)⟩) (fun b c => absurd ⟨b, c⟩ a)⟩) (fun a b => ⟨_, _, rfl, N_burns r sm (fun c => absurd ⟨a, b⟩ c) (fun _ _ => ⟨rfl, R, T, K, D, s, rfl, j.st (by omega)⟩)⟩)
theorem J_fallen (j : Jn C F R T K s B) : CallI kX10_fallen [.ref 16, .int x] (hW C F) (JQ kX11_fallen [.ref 16, .int x] R T K D s (B + 20)) := by
  obtain ⟨n, d, p, u, k, r, iv⟩ := j.1
  have hp9 := r.ok.2.2.1.1.2
  refine H_fallen r.ok (fun a => ⟨_, _, rfl, N_fallen r (fun _ => ⟨rfl, R, T, K, D, _, rfl, j.bad (by omega)⟩) (fun i hi e => absurd (by rw [e]; exact ix_in (by omega) hi) a)⟩) (fun i hi e => ⟨_, _, rfl, N_fallen r (fun a => absurd (by rw [e]; exact ix_in (by omega) hi) a) (fun i' hi' e' => ?_)⟩)
  cases nI_inj e e' (by omega) (by omega)
  exact ⟨rfl, R, T, K, D, s, rfl, j.st (by omega)⟩
theorem J_falls (j : Jn C F R T K s B) (hB : B < 100000) : CallI kX10_falls [.ref 16, .int x] (hW C F) (JQ kX11_falls [.ref 16, .int x] R T K D s (B + 20)) := by
  obtain ⟨n, d, p, u, k, r, iv⟩ := j.1
  have sm := iv.sm (by omega) r.ok.2.1.1.2
  have hp9 := r.ok.2.2.1.1.2
  refine H_falls r.ok (fun a => ⟨_, _, rfl, N_falls r sm (fun _ => ⟨rfl, R, T, K, D, _, rfl, j.bad (by omega)⟩) (fun i hi e => absurd (by rw [e]; exact ix_in (by omega) hi) a)⟩) (fun i hi e G hG => ⟨_, _, rfl, N_falls r sm (fun a => absurd (by rw [e]; exact ix_in (by omega) hi) a) (fun i' hi' e' => ?_)⟩)
  cases nI_inj e e' (by omega) (by omega)
  exact ⟨rfl, R, T, K, D, s, rfl, j.same (by omega) hG⟩
theorem J_out (j : Jn C F R T K s B) (hB : B < 100000) : CallI kX10_out [.ref 16] (hW C F) (JQ kX11_out [.ref 16] R T K D s (B + 20)) := by
  obtain ⟨n, d, p, u, k, r, iv⟩ := j.1
  have sm := iv.sm (by omega) r.ok.2.1.1.2
  exact H_out r.ok (fun G hG => ⟨_, _, rfl, N_out r sm ⟨rfl, R, T, K, D, s, rfl, j.same (by omega) hG⟩⟩)
theorem J_whose (j : Jn C F R T K s B) (hB : B < 100000) : CallI kX10_whose [.ref 16, .int x] (hW C F) (JQ kX11_whose [.ref 16, .int x] R T K D s (B + 20)) := by
  obtain ⟨n, d, p, u, k, r, iv⟩ := j.1
  have sm := iv.sm (by omega) r.ok.2.1.1.2
  have hp9 := r.ok.2.2.1.1.2
  refine H_whose r.ok (fun a => ⟨_, _, rfl, N_whose r sm (fun _ => ⟨rfl, R, T, K, D, _, rfl, j.bad (by omega)⟩) (fun i hi e => absurd (by rw [e]; exact ix_in (by omega) hi) a)⟩) (fun i hi e G hG => ⟨_, _, rfl, N_whose r sm (fun a => absurd (by rw [e]; exact ix_in (by omega) hi) a) (fun i' hi' e' => ?_)⟩)
  cases nI_inj e e' (by omega) (by omega)
  exact ⟨rfl, R, T, K, D, s, rfl, j.same (by omega) hG⟩
theorem J_reads (j : Jn C F R T K s B) (hB : B < 100000) : CallI kX10_reads [.ref 16, .int x, .int y, .int z] (hW C F) (JQ kX11_reads_ [.ref 16, .int x, .int y, .int z] R T K D s (B + 20)) := by
  obtain ⟨n, d, p, u, k, r, iv⟩ := j.1
  have sm := iv.sm (by omega) r.ok.2.1.1.2
  have hp9 := r.ok.2.2.1.1.2
  refine H_reads r.ok (fun a => ⟨_, _, rfl, N_reads r sm (fun _ => ⟨rfl, R, T, K, D, _, rfl, j.bad (by omega)⟩) (fun a1 a2 a3 a4 i hi e => absurd ⟨⟨a1, a2⟩, ⟨a3, a4⟩, by rw [e]; exact ix_in (by omega) hi⟩ a)⟩) (fun a1 a2 a3 a4 i hi e G hG => ⟨_, _, rfl, N_reads r sm (fun a => absurd ⟨⟨a1, a2⟩, ⟨a3, a4⟩, by rw [e]; exact ix_in (by omega) hi⟩ a) (fun _ _ _ _ i' hi' e' => ?_)⟩)
  cases nI_inj e e' (by omega) (by omega)
  exact ⟨rfl, R, T, K, D, s, rfl, j.same (by omega) hG⟩
theorem J_set (j : Jn C F R T K s B) (hB : B < 100000) : CallI kX10_set [.ref 16, .int x, .int y, .int z] (hW C F) (JQ kX11_set [.ref 16, .int x, .int y, .int z] R T K D s (B + 20)) := by
  obtain ⟨n, d, p, u, k, r, iv⟩ := j.1
  have sm := iv.sm (by omega) r.ok.2.1.1.2
  exact H_set r.ok (fun a => ⟨_, _, rfl, N_set r sm (fun _ => ⟨rfl, R, T, K, D, _, rfl, j.bad (by omega)⟩) (fun a1 a2 a3 => absurd ⟨a1, a2, a3⟩ a)⟩) (fun a1 a2 a3 G hG => ⟨_, _, rfl, N_set r sm (fun a => absurd ⟨a1, a2, a3⟩ a) (fun _ _ _ => ⟨rfl, R, T, K, D, s, rfl, j.same (by omega) hG⟩)⟩)
theorem J_shut (j : Jn C F R T K s B) (hB : B < 100000) : CallI kX10_shut [.ref 16, .int x, .int t] (hW C F) (JQ kX11_shut [.ref 16, .int x, .int t] R T K D s (B + 20)) := by
  obtain ⟨n, d, p, u, k, r, iv⟩ := j.1
  have sm := iv.sm (by omega) r.ok.2.1.1.2
  have hp9 := r.ok.2.2.1.1.2
  refine H_shut r.ok (fun a => ⟨_, _, rfl, N_shut r sm (fun _ => ⟨rfl, R, T, K, D, _, rfl, j.bad (by omega)⟩) (fun i hi e b c => absurd ⟨i, hi, e, b, c⟩ a)⟩) (fun i hi e b c G hG => ⟨_, _, rfl, N_shut r sm (fun a => absurd ⟨i, hi, e, b, c⟩ a) (fun i' hi' e' _ _ => ?_)⟩)
  cases nI_inj e e' (by omega) (by omega)
  exact ⟨rfl, R, T, K, D, s, rfl, j.same (by omega) hG⟩
theorem J_lean (j : Jn C F R T K s B) : CallI kX10_lean [.ref 16, .int x, .int y] (hW C F) (JQ kX11_lean [.ref 16, .int x, .int y] R T K D s (B + 20)) := by
  obtain ⟨n, d, p, u, k, r, iv⟩ := j.1
  have hp9 := r.ok.2.2.1.1.2
  refine H_lean r.ok (fun a => ⟨_, _, rfl, N_lean r (fun _ => ⟨rfl, R, T, K, D, _, rfl, j.bad (by omega)⟩) (fun i hi e b => absurd ⟨by rw [e]; exact ix_in (by omega) hi, b⟩ a)⟩) (fun i hi e b => ⟨_, _, rfl, N_lean r (fun a => absurd ⟨by rw [e]; exact ix_in (by omega) hi, b⟩ a) (fun i' hi' e' _ => ?_)⟩)
  cases nI_inj e e' (by omega) (by omega)
  exact ⟨rfl, _, T, K, D, s, rfl, j.mv0 (by omega) ⟨n, d, p, u, k, K_lean r hi, (In_lean iv).mono (by omega)⟩ (fun q hq _ => upN (by omega))⟩
theorem J_leaned (j : Jn C F R T K s B) (hB : B < 100000) : CallI kX10_leaned [.ref 16, .int x] (hW C F) (JQ kX11_leaned [.ref 16, .int x] R T K D s (B + 20)) := by
  obtain ⟨n, d, p, u, k, r, iv⟩ := j.1
  have sm := iv.sm (by omega) r.ok.2.1.1.2
  exact H_leaned r.ok (fun a => ⟨_, _, rfl, N_leaned r sm (fun _ => ⟨rfl, R, T, K, D, _, rfl, j.bad (by omega)⟩) (fun a1 a2 => absurd ⟨a1, a2⟩ a)⟩) (fun a1 a2 G hG => ⟨_, _, rfl, N_leaned r sm (fun a => absurd ⟨a1, a2⟩ a) (fun _ _ => ⟨rfl, R, T, K, D, s, rfl, j.same (by omega) hG⟩)⟩)
theorem J_quorum (j : Jn C F R T K s B) (hB : B < 100000) : CallI kX10_quorum [.ref 16, .int x, .int y, .int z] (hW C F) (JQ kX11_quorum [.ref 16, .int x, .int y, .int z] R T K D s (B + 20)) := by
  obtain ⟨n, d, p, u, k, r, iv⟩ := j.1
  have sm := iv.sm (by omega) r.ok.2.1.1.2
  obtain ⟨w0, hw0, ew0⟩ := iv.2.2.1
  have yy : ∀ m, m ≤ 60 → y = nI m → (0 ≤ y ∧ y ≤ 60) := fun m hm e => by
    rw [e]
    exact ⟨nI_pos' (by omega), nI_le (b := 60) hm (by omega)⟩
  refine H_quorum r.ok ew0 (by omega) (fun a => ⟨_, _, rfl, N_quorum r sm (fun _ => ⟨rfl, R, T, K, D, _, rfl, j.bad (by omega)⟩) (fun a1 a2 m hm e => absurd ⟨a1, yy m hm e, a2⟩ a)⟩) (fun a1 a2 m hm e => ⟨_, _, rfl, N_quorum r sm (fun a => absurd ⟨a1, yy m hm e, a2⟩ a) (fun _ _ m' hm' e' => ?_)⟩)
  cases nI_inj e e' (by omega) (by omega)
  exact ⟨rfl, R, T, K, D, s, rfl, j.st (by omega)⟩
theorem J_tallow (j : Jn C F R T K s B) (hB : B < 100000) : CallI kX10_tallow [.ref 16, .int x, .int y] (hW C F) (JQ kX11_tallow [.ref 16, .int x, .int y] R T K D s (B + 20)) := by
  obtain ⟨n, d, p, u, k, r, iv⟩ := j.1
  have sm := iv.sm (by omega) r.ok.2.1.1.2
  have hp9 := r.ok.2.2.1.1.2
  refine H_tallow r.ok (fun a => ⟨_, _, rfl, N_tallow r sm (fun _ => ⟨rfl, R, T, K, D, _, rfl, j.bad (by omega)⟩) (fun i hi e b => absurd ⟨by rw [e]; exact ix_in (by omega) hi, b⟩ a)⟩) (fun i hi e b G hG => ⟨_, _, rfl, N_tallow r sm (fun a => absurd ⟨by rw [e]; exact ix_in (by omega) hi, b⟩ a) (fun i' hi' e' _ => ?_)⟩)
  cases nI_inj e e' (by omega) (by omega)
  exact ⟨rfl, R, T, K, D, s, rfl, j.same (by omega) hG⟩
theorem J_race (j : Jn C F R T K s B) (hB : B < 100000) : CallI kX10_race [.ref 16, .int x, .int y] (hW C F) (JQ kX11_race [.ref 16, .int x, .int y] R T K D s (B + 20)) := by
  obtain ⟨n, d, p, u, k, r, iv⟩ := j.1
  have sm := iv.sm (by omega) r.ok.2.1.1.2
  exact H_race r.ok (fun a => ⟨_, _, rfl, N_race r sm (fun _ => ⟨rfl, R, T, K, D, _, rfl, j.bad (by omega)⟩) (fun a1 a2 => absurd ⟨a1, a2⟩ a)⟩) (fun a1 a2 G hG => ⟨_, _, rfl, N_race r sm (fun a => absurd ⟨a1, a2⟩ a) (fun _ _ => ⟨rfl, R, T, K, D, s, rfl, j.same (by omega) hG⟩)⟩)
theorem J_game {x2 y2 : Int32} (j : Jn C F R T K s B) (hB : B < 100000) : CallI kX10_game [.ref 16, .int x, .int x2, .int y, .int y2, .int w] (hW C F) (JQ kX11_game [.ref 16, .int x, .int x2, .int y, .int y2, .int w] R T K D s (B + 20)) := by
  obtain ⟨n, d, p, u, k, r, iv⟩ := j.1
  have sm := iv.sm (by omega) r.ok.2.1.1.2
  have hd5 := r.ok.2.1.2.1.2
  have ii : ∀ {v : Int32} {i : Nat}, i < d → v = nI i → 0 ≤ v ∧ v ≤ nI d - 1 := fun hi e => by rw [e]; exact ix_in (by omega) hi
  exact H_game r.ok (fun a => ⟨_, _, rfl, N_game r sm (fun _ => ⟨rfl, R, T, K, D, _, rfl, j.bad (by omega)⟩) (fun a1 a2 a3 a4 i i2 b1 b2 b3 b4 b5 => absurd ⟨a1, a2, a3, a4, ii b1 b3, ii b2 b4, b5⟩ a)⟩) (fun a1 a2 a3 a4 i i2 b1 b2 b3 b4 b5 G hG => ⟨_, _, rfl, N_game r sm (fun a => absurd ⟨a1, a2, a3, a4, ii b1 b3, ii b2 b4, b5⟩ a) (fun _ _ _ _ _ _ _ _ _ _ _ => ⟨rfl, R, T, K, D, s, rfl, j.same (by omega) hG⟩)⟩)
theorem J_moths (j : Jn C F R T K s B) (hB : B < 100000) : CallI kX10_moths [.ref 16, .int x, .int y, .int z] (hW C F) (JQ kX11_moths [.ref 16, .int x, .int y, .int z] R T K D s (B + 20)) := by
  obtain ⟨n, d, p, u, k, r, iv⟩ := j.1
  have sm := iv.sm (by omega) r.ok.2.1.1.2
  have xx : ∀ m, m ≤ 60 → x = nI m → (0 ≤ x ∧ x ≤ 60) := fun m hm e => by
    rw [e]
    exact ⟨nI_pos' (by omega), nI_le (b := 60) hm (by omega)⟩
  refine H_moths r.ok (fun a => ⟨_, _, rfl, N_moths r sm iv.rg (fun _ => ⟨rfl, R, T, K, D, _, rfl, j.bad (by omega)⟩) (fun a1 a2 m hm e => absurd ⟨xx m hm e, a1, a2⟩ a)⟩) (fun a1 a2 m hm e => ⟨_, _, rfl, N_moths r sm iv.rg (fun a => absurd ⟨xx m hm e, a1, a2⟩ a) (fun _ _ m' hm' e' => ?_)⟩)
  cases nI_inj e e' (by omega) (by omega)
  exact ⟨rfl, R, T, K, D, s, rfl, j.st (by omega)⟩
theorem J_loan (j : Jn C F R T K s B) : CallI kX10_loan [.ref 16, .int x] (hW C F) (JQ kX11_loan [.ref 16, .int x] R T K D s (B + 20)) := by
  obtain ⟨n, d, p, u, k, r, iv⟩ := j.1
  exact H_loan r.ok (fun a => ⟨_, _, rfl, N_loan r iv.rg (fun _ => ⟨rfl, R, T, K, D, _, rfl, j.bad (by omega)⟩) (fun a1 a2 => absurd ⟨a1, a2⟩ a)⟩) (fun a1 a2 => ⟨_, _, rfl, N_loan r iv.rg (fun a => absurd ⟨a1, a2⟩ a) (fun _ _ => ⟨rfl, R, T, K, D, s, rfl, j.st (by omega)⟩)⟩)
theorem m01 {m : Nat} (hm : m < 2) (e : x = nI m) : 0 ≤ x ∧ x ≤ 1 := by
  rw [e]
  exact ⟨nI_pos' (by omega), nI_le (b := 1) (by omega) (by omega)⟩
theorem J_image (j : Jn C F R T K s B) : CallI kX10_image [.ref 16, .int x] (hW C F) (JQ kX11_image [.ref 16, .int x] R T K D s (B + 20)) := by
  refine H_image (fun a => ⟨_, _, rfl, N_image (fun _ => ⟨rfl, R, T, K, D, _, rfl, j.bad (by omega)⟩) (fun m hm e => absurd (m01 hm e) a)⟩) (fun m hm e => ⟨_, _, rfl, N_image (fun a => absurd (m01 hm e) a) (fun m' hm' e' => ?_)⟩)
  cases nI_inj e e' (by omega) (by omega)
  obtain ⟨h1, h2, h3, h4, h5, h8, h9, l, h10, h11, h12⟩ := j
  refine ⟨rfl, _, T, _, D, s, rfl, ?_, ?_, ?_, fun q hq hk => ?_, h5, h8, h9, l, h10, h11, h12⟩
  · rw [vuN (by omega)]
    exact (h1.mono (by omega)).far (fun q hq => cp_out (by omega))
  · rw [vuN (by omega)]
    exact h2
  · rw [vuE, h3]
  · rw [vuE] at hk
    by_cases g : q = m
    · subst g
      rw [vuE]
      refine (h1.lik.mono (by omega)).far (fun i hi => ?_)
      have := cp_in (R := R) (f := 0) (t := 113 * (1 + q)) hi
      rw [show 0 + i = i by omega] at this
      exact this
    · rw [upN g] at hk
      rw [vuN (by omega)]
      refine ((h4 q hq hk).mono (by omega)).far (fun i hi => cp_out (by omega))
theorem J_from (j : Jn C F R T K s B) : CallI kX10_from [.ref 16, .int x] (hW C F) (JQ kX11_from [.ref 16, .int x] R T K D s (B + 20)) := by
  have h3 := j.2.2.1
  refine H_from (fun a => ⟨_, _, rfl, N_from (fun _ => ⟨rfl, R, T, K, D, _, rfl, j.bad (by omega)⟩) (fun m hm e => absurd (m01 hm e) a) (fun m hm e => absurd (m01 hm e) a)⟩) (fun m hm e g => ⟨_, _, rfl, N_from (fun a => absurd (m01 hm e) a) (fun m' hm' e' g' => ?_) (fun m' hm' e' g' => ?_)⟩) (fun m hm e g => ⟨_, _, rfl, N_from (fun a => absurd (m01 hm e) a) (fun m' hm' e' g' => ?_) (fun m' hm' e' g' => ?_)⟩)
  · refine ⟨rfl, R, T, K, D, _, rfl, ?_⟩
    rw [← bmp_3]
    exact j.cn (by omega) (-3)
  · cases nI_inj e e' (by omega) (by omega)
    rw [h3] at g'
    exact absurd g g'
  · cases nI_inj e e' (by omega) (by omega)
    rw [h3] at g'
    exact absurd g' g
  · cases nI_inj e e' (by omega) (by omega)
    refine ⟨rfl, _, T, K, D, s, rfl, j.mv0 (by omega) ?_ (fun q hq _ => cp_out (by omega))⟩
    refine ((j.2.2.2.1 m hm g).lik.mono (by omega)).far (fun i hi => ?_)
    have := cp_in (R := R) (f := 113 * (1 + m)) (t := 0) hi
    rw [show 0 + i = i by omega] at this
    exact this
theorem J_status (j : Jn C F R T K s B) : CallI kX10_status [.ref 16, .int x] (hW C F) (JQ kX11_status [.ref 16, .int x] R T K D s (B + 20)) := by
  have h5 := j.2.2.2.2.1
  have xx : ∀ m, m < 3 → x = nI m → (0 ≤ x ∧ x ≤ 2) := fun m hm e => by
    rw [e]
    exact ⟨nI_pos' (by omega), nI_le (b := 2) (by omega) (by omega)⟩
  refine H_status (fun a => ⟨_, _, rfl, N_status (fun _ => ⟨rfl, R, T, K, D, _, rfl, j.bad (by omega)⟩) (fun m hm e => absurd (xx m hm e) a)⟩) (fun m hm e => ⟨_, _, rfl, N_status (fun a => absurd (xx m hm e) a) (fun m' hm' e' => ?_)⟩)
  cases nI_inj e e' (by omega) (by omega)
  refine ⟨?_, R, T, K, D, s, rfl, j.st (by omega)⟩
  match m, hm with
  | 0, _ => exact h5.1
  | 1, _ => exact h5.2.1
  | 2, _ => exact h5.2.2
  | m + 3, hm => exact absurd hm (by omega)
theorem J_count (j : Jn C F R T K s B) : CallI kX10_count [.ref 16, .int x] (hW C F) (JQ kX11_count [.ref 16, .int x] R T K D s (B + 20)) := by
  obtain ⟨n, d, p, u, k, r, iv⟩ := j.1
  obtain ⟨l, hl, hF, hs⟩ := j.2.2.2.2.2.2.2
  have hl := hF.trans hs.symm
  have xx : ∀ m, m ≤ 9 → x = nI m → (0 ≤ x ∧ x ≤ 9) := fun m hm e => by
    rw [e]
    exact ⟨nI_pos' (by omega), nI_le (b := 9) hm (by omega)⟩
  refine H_count r.ok (fun a => ⟨_, _, rfl, N_count (F := F) r hl (fun _ => ⟨rfl, R, T, K, D, _, rfl, j.bad (by omega)⟩) (fun m hm e => absurd (xx m hm e) a)⟩) (fun m hm e => ⟨_, _, rfl, N_count (F := F) r hl (fun a => absurd (xx m hm e) a) (fun m' hm' e' => ?_)⟩)
  cases nI_inj e e' (by omega) (by omega)
  exact ⟨rfl, R, T, K, D, s, rfl, j.st (by omega)⟩
theorem J_digest (j : Jn C F R T K s B) : CallL kX10_digest [.ref 16] (hW C F) (JL kX11_digest [.ref 16] R T K D s (B + 20)) := by
  obtain ⟨n, d, p, u, k, r, iv⟩ := j.1
  obtain ⟨l, hl, hF, hs⟩ := j.2.2.2.2.2.2.2
  have hl := hF.trans hs.symm
  exact H_digest r.ok ⟨_, _, rfl, N_digest (F := F) r hl ⟨rfl, R, T, K, D, s, rfl, j.st (by omega)⟩⟩
end J2
