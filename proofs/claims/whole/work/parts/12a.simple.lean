/-! simple calls -/
theorem a_upd {f g : Nat → Int32} {P : Int32 → Prop} {n k : Nat} {x : Int32} (h : ∀ j, j < n → f j = g j ∧ P (f j)) (hx : P x) : ∀ j, j < n → upd f k x j = upd g k x j ∧ P (upd f k x j) := by
  intro j hj
  by_cases hk : j = k
  · subst hk
    rw [upd_eq, upd_eq]
    exact ⟨rfl, hx⟩
  · rw [upd_ne hk, upd_ne hk]
    exact h j hj
theorem b_upd {f g : Nat → Int32} {n k : Nat} {x : Int32} (h : ∀ j, j < n → f j = g j) : ∀ j, j < n → upd f k x j = upd g k x j := by
  intro j hj
  by_cases hk : j = k
  · subst hk
    rw [upd_eq, upd_eq]
  · rw [upd_ne hk, upd_ne hk]
    exact h j hj
theorem rng {a lo hi : Int32} (h1 : ¬ a < lo) (h2 : ¬ hi < a) : lo.toInt ≤ a.toInt ∧ a.toInt ≤ hi.toInt := by
  rw [Int32.lt_iff_toInt_lt] at h1 h2
  omega
set_option maxHeartbeats 1000000 in
theorem j_job {σ μ : St} (h : RR σ μ) (a : Int32) (b : Int32) : JJ RR (fun Q => wp_X9_job Q a b σ) (fun Q => wp_X10_job Q a b μ) := by
  rcases c_sec a with ⟨ha, hc, hm⟩ | ⟨hc, hm⟩
  · rcases c_job b with ⟨hb, hc2, hm2⟩ | ⟨hc2, hm2⟩
    · have hk := vp_lt ha
      have e := (h.1.1 _ hk).1
      refine ⟨σ 78 a.toNatClampNeg, up2 σ 78 a.toNatClampNeg b, up2 μ 13 a.toNatClampNeg b, ⟨⟨a_upd (P := fun x => vp_in x 4) h.1.1 hb, h.1.2.1, h.1.2.2⟩, rS_c (σ := σ) (μ := μ) rfl rfl rfl rfl rfl rfl rfl rfl rfl rfl rfl rfl rfl rfl h.2.1, rM_c (σ := σ) (μ := μ) rfl rfl rfl rfl rfl rfl rfl rfl rfl rfl rfl rfl h.2.2.1, rO_c (σ := σ) (μ := μ) rfl rfl rfl rfl rfl h.2.2.2.1, rB_c (σ := σ) (μ := μ) rfl (fun i h1 h2 => (by first | rfl | (simp (disch := omega) only [up2_ne]))) rfl (fun i h1 h2 => (by first | rfl | (simp (disch := omega) only [up2_ne]))) h.2.2.2.2.1, rD_c (σ := σ) (μ := μ) (fun i h1 h2 _ _ _ => (by first | rfl | (simp (disch := omega) only [up2_ne]))) rfl rfl (fun i h1 h2 => (by first | rfl | (simp (disch := omega) only [up2_ne]))) h.2.2.2.2.2.1, rA_c (σ := σ) (μ := μ) (fun i h1 h2 => (by first | rfl | (simp (disch := omega) only [up2_ne]))) rfl (fun i h1 h2 => (by first | rfl | (simp (disch := omega) only [up2_ne]))) h.2.2.2.2.2.2⟩, fun Q q => ?_, fun Q q => ?_⟩
      · unfold wp_X9_job
        repeat' first | exact q | assumption | with_reducible refine And.intro ?_ ?_ | (intro z; contradiction) | (intro z; exact absurd z (by decide)) | (intro z; exact absurd rfl z) | (intro x e; subst e) | intro _ | refine hc _ _ ?_ | refine hc2 _ _ ?_
      · rw [e] at q
        unfold wp_X10_job
        repeat' first | exact q | assumption | with_reducible refine And.intro ?_ ?_ | (intro z; contradiction) | (intro z; exact absurd z (by decide)) | (intro z; exact absurd rfl z) | (intro x e; subst e) | intro _ | refine hm _ _ ?_ | refine hm2 _ _ ?_
    · skip
      refine ⟨-1, σ, μ, h, fun Q q => ?_, fun Q q => ?_⟩
      · unfold wp_X9_job
        repeat' first | exact q | assumption | with_reducible refine And.intro ?_ ?_ | (intro z; contradiction) | (intro z; exact absurd z (by decide)) | (intro z; exact absurd rfl z) | (intro x e; subst e) | intro _ | refine hc _ _ ?_ | refine hc2 _ _ ?_
      · unfold wp_X10_job
        repeat' first | exact q | assumption | with_reducible refine And.intro ?_ ?_ | (intro z; contradiction) | (intro z; exact absurd z (by decide)) | (intro z; exact absurd rfl z) | (intro x e; subst e) | intro _ | refine hm _ _ ?_ | refine hm2 _ _ ?_
  · skip
    refine ⟨-1, σ, μ, h, fun Q q => ?_, fun Q q => ?_⟩
    · unfold wp_X9_job
      repeat' first | exact q | assumption | with_reducible refine And.intro ?_ ?_ | (intro z; contradiction) | (intro z; exact absurd z (by decide)) | (intro z; exact absurd rfl z) | (intro x e; subst e) | intro _ | refine hc _ _ ?_
    · unfold wp_X10_job
      repeat' first | exact q | assumption | with_reducible refine And.intro ?_ ?_ | (intro z; contradiction) | (intro z; exact absurd z (by decide)) | (intro z; exact absurd rfl z) | (intro x e; subst e) | intro _ | refine hm _ _ ?_
set_option maxHeartbeats 1000000 in
theorem j_aim {σ μ : St} (h : RR σ μ) (a : Int32) (b : Int32) (c : Int32) : JJ RR (fun Q => wp_X9_aim Q a b c σ) (fun Q => wp_X10_aim Q a b c μ) := by
  rcases c_job a with ⟨ha, hc, hm⟩ | ⟨hc, hm⟩
  · rcases c_btw b 100 900 with ⟨h1, h2, hc2, hm2⟩ | ⟨hb, hc2, hm2⟩
    · rcases c_col c with ⟨h3, hc3, hm3⟩ | ⟨hc3, hm3⟩
      · have hk := vp_lt ha
        have hr := rng h1 h2
        have hr : 100 ≤ b.toInt ∧ b.toInt ≤ 900 := hr
        refine ⟨1, up2 (up2 σ 79 a.toNatClampNeg b) 80 a.toNatClampNeg c, up2 (up2 μ 15 a.toNatClampNeg b) 16 a.toNatClampNeg c, ⟨⟨h.1.1, a_upd (P := fun x => 100 ≤ x.toInt ∧ x.toInt ≤ 900) h.1.2.1 hr, b_upd h.1.2.2⟩, rS_c (σ := σ) (μ := μ) rfl rfl rfl rfl rfl rfl rfl rfl rfl rfl rfl rfl rfl rfl h.2.1, rM_c (σ := σ) (μ := μ) rfl rfl rfl rfl rfl rfl rfl rfl rfl rfl rfl rfl h.2.2.1, rO_c (σ := σ) (μ := μ) rfl rfl rfl rfl rfl h.2.2.2.1, rB_c (σ := σ) (μ := μ) rfl (fun i h1 h2 => (by first | rfl | (simp (disch := omega) only [up2_ne]))) rfl (fun i h1 h2 => (by first | rfl | (simp (disch := omega) only [up2_ne]))) h.2.2.2.2.1, rD_c (σ := σ) (μ := μ) (fun i h1 h2 _ _ _ => (by first | rfl | (simp (disch := omega) only [up2_ne]))) rfl rfl (fun i h1 h2 => (by first | rfl | (simp (disch := omega) only [up2_ne]))) h.2.2.2.2.2.1, rA_c (σ := σ) (μ := μ) (fun i h1 h2 => (by first | rfl | (simp (disch := omega) only [up2_ne]))) rfl (fun i h1 h2 => (by first | rfl | (simp (disch := omega) only [up2_ne]))) h.2.2.2.2.2.2⟩, fun Q q => ?_, fun Q q => ?_⟩
        · unfold wp_X9_aim
          repeat' first | exact q | assumption | with_reducible refine And.intro ?_ ?_ | (intro z; contradiction) | (intro z; exact absurd z (by decide)) | (intro z; exact absurd rfl z) | (intro x e; subst e) | intro _ | refine hc _ _ ?_ | refine hc2 _ _ ?_ | refine hc3 _ _ ?_
        · unfold wp_X10_aim
          repeat' first | exact q | assumption | with_reducible refine And.intro ?_ ?_ | (intro z; contradiction) | (intro z; exact absurd z (by decide)) | (intro z; exact absurd rfl z) | (intro x e; subst e) | intro _ | refine hm _ _ ?_ | refine hm2 _ _ ?_ | refine hm3 _ _ ?_
      · skip
        refine ⟨-1, σ, μ, h, fun Q q => ?_, fun Q q => ?_⟩
        · unfold wp_X9_aim
          repeat' first | exact q | assumption | with_reducible refine And.intro ?_ ?_ | (intro z; contradiction) | (intro z; exact absurd z (by decide)) | (intro z; exact absurd rfl z) | (intro x e; subst e) | intro _ | refine hc _ _ ?_ | refine hc2 _ _ ?_ | refine hc3 _ _ ?_
        · unfold wp_X10_aim
          repeat' first | exact q | assumption | with_reducible refine And.intro ?_ ?_ | (intro z; contradiction) | (intro z; exact absurd z (by decide)) | (intro z; exact absurd rfl z) | (intro x e; subst e) | intro _ | refine hm _ _ ?_ | refine hm2 _ _ ?_ | refine hm3 _ _ ?_
    · skip
      refine ⟨-1, σ, μ, h, fun Q q => ?_, fun Q q => ?_⟩
      · unfold wp_X9_aim
        repeat' first | exact q | assumption | with_reducible refine And.intro ?_ ?_ | (intro z; contradiction) | (intro z; exact absurd z (by decide)) | (intro z; exact absurd rfl z) | (intro x e; subst e) | intro _ | refine hc _ _ ?_ | refine hc2 _ _ ?_
      · unfold wp_X10_aim
        repeat' first | exact q | assumption | with_reducible refine And.intro ?_ ?_ | (intro z; contradiction) | (intro z; exact absurd z (by decide)) | (intro z; exact absurd rfl z) | (intro x e; subst e) | intro _ | refine hm _ _ ?_ | refine hm2 _ _ ?_
  · skip
    refine ⟨-1, σ, μ, h, fun Q q => ?_, fun Q q => ?_⟩
    · unfold wp_X9_aim
      repeat' first | exact q | assumption | with_reducible refine And.intro ?_ ?_ | (intro z; contradiction) | (intro z; exact absurd z (by decide)) | (intro z; exact absurd rfl z) | (intro x e; subst e) | intro _ | refine hc _ _ ?_
    · unfold wp_X10_aim
      repeat' first | exact q | assumption | with_reducible refine And.intro ?_ ?_ | (intro z; contradiction) | (intro z; exact absurd z (by decide)) | (intro z; exact absurd rfl z) | (intro x e; subst e) | intro _ | refine hm _ _ ?_
set_option maxHeartbeats 1000000 in
theorem j_glass {σ μ : St} (h : RR σ μ) (a : Int32) (b : Int32) : JJ RR (fun Q => wp_X9_glass Q a b σ) (fun Q => wp_X10_glass Q a b μ) := by
  have e := h.2.1.2.1
  rcases c_col a with ⟨ha, hc, hm⟩ | ⟨hc, hm⟩
  · rcases c_btw b 0 50 with ⟨h1, h2, hc2, hm2⟩ | ⟨hb, hc2, hm2⟩
    · by_cases hg : a = σ 0 9
      · have hg2 : a = μ 0 29 := hg.trans e
        refine ⟨-3, σ, μ, h, fun Q q => ?_, fun Q q => ?_⟩
        · unfold wp_X9_glass
          repeat' first | exact q | assumption | with_reducible refine And.intro ?_ ?_ | (intro z; contradiction) | (intro z; exact absurd z (by decide)) | (intro z; exact absurd rfl z) | (intro x e; subst e) | intro _ | refine hc _ _ ?_ | refine hc2 _ _ ?_
        · unfold wp_X10_glass
          repeat' first | exact q | assumption | with_reducible refine And.intro ?_ ?_ | (intro z; contradiction) | (intro z; exact absurd z (by decide)) | (intro z; exact absurd rfl z) | (intro x e; subst e) | intro _ | refine hm _ _ ?_ | refine hm2 _ _ ?_
      · have hg2 : ¬ a = μ 0 29 := fun z => hg (z.trans e.symm)
        refine ⟨1, up2 (up2 σ 0 9 a) 0 10 b, up2 (up2 μ 0 29 a) 0 30 b, ⟨rG_c (σ := σ) (μ := μ) rfl rfl rfl rfl rfl rfl h.1, ⟨h.2.1.1, rfl, rfl, h.2.1.2.2.2⟩, rM_c (σ := σ) (μ := μ) rfl rfl rfl rfl rfl rfl rfl rfl rfl rfl rfl rfl h.2.2.1, rO_c (σ := σ) (μ := μ) rfl rfl rfl rfl rfl h.2.2.2.1, rB_c (σ := σ) (μ := μ) rfl (fun i h1 h2 => (by first | rfl | (simp (disch := omega) only [up2_ne]))) rfl (fun i h1 h2 => (by first | rfl | (simp (disch := omega) only [up2_ne]))) h.2.2.2.2.1, rD_c (σ := σ) (μ := μ) (fun i h1 h2 _ _ _ => (by first | rfl | (simp (disch := omega) only [up2_ne]))) rfl rfl (fun i h1 h2 => (by first | rfl | (simp (disch := omega) only [up2_ne]))) h.2.2.2.2.2.1, rA_c (σ := σ) (μ := μ) (fun i h1 h2 => (by first | rfl | (simp (disch := omega) only [up2_ne]))) rfl (fun i h1 h2 => (by first | rfl | (simp (disch := omega) only [up2_ne]))) h.2.2.2.2.2.2⟩, fun Q q => ?_, fun Q q => ?_⟩
        · unfold wp_X9_glass
          repeat' first | exact q | assumption | with_reducible refine And.intro ?_ ?_ | (intro z; contradiction) | (intro z; exact absurd z (by decide)) | (intro z; exact absurd rfl z) | (intro x e; subst e) | intro _ | refine hc _ _ ?_ | refine hc2 _ _ ?_
        · unfold wp_X10_glass
          repeat' first | exact q | assumption | with_reducible refine And.intro ?_ ?_ | (intro z; contradiction) | (intro z; exact absurd z (by decide)) | (intro z; exact absurd rfl z) | (intro x e; subst e) | intro _ | refine hm _ _ ?_ | refine hm2 _ _ ?_
    · skip
      refine ⟨-1, σ, μ, h, fun Q q => ?_, fun Q q => ?_⟩
      · unfold wp_X9_glass
        repeat' first | exact q | assumption | with_reducible refine And.intro ?_ ?_ | (intro z; contradiction) | (intro z; exact absurd z (by decide)) | (intro z; exact absurd rfl z) | (intro x e; subst e) | intro _ | refine hc _ _ ?_ | refine hc2 _ _ ?_
      · unfold wp_X10_glass
        repeat' first | exact q | assumption | with_reducible refine And.intro ?_ ?_ | (intro z; contradiction) | (intro z; exact absurd z (by decide)) | (intro z; exact absurd rfl z) | (intro x e; subst e) | intro _ | refine hm _ _ ?_ | refine hm2 _ _ ?_
  · skip
    refine ⟨-1, σ, μ, h, fun Q q => ?_, fun Q q => ?_⟩
    · unfold wp_X9_glass
      repeat' first | exact q | assumption | with_reducible refine And.intro ?_ ?_ | (intro z; contradiction) | (intro z; exact absurd z (by decide)) | (intro z; exact absurd rfl z) | (intro x e; subst e) | intro _ | refine hc _ _ ?_
    · unfold wp_X10_glass
      repeat' first | exact q | assumption | with_reducible refine And.intro ?_ ?_ | (intro z; contradiction) | (intro z; exact absurd z (by decide)) | (intro z; exact absurd rfl z) | (intro x e; subst e) | intro _ | refine hm _ _ ?_
set_option maxHeartbeats 1000000 in
theorem j_swab {σ μ : St} (h : RR σ μ) (a : Int32) : JJ RR (fun Q => wp_X9_swab Q a σ) (fun Q => wp_X10_swab Q a μ) := by
  rcases c_mld a with ⟨ha, hc, hm⟩ | ⟨hc, hm⟩
  · have hk := vp_lt ha
    have e := (h.2.2.1.1 _ hk).2.1
    refine ⟨σ 59 a.toNatClampNeg, up2 σ 59 a.toNatClampNeg 0, up2 μ 18 a.toNatClampNeg 0, ⟨rG_c (σ := σ) (μ := μ) rfl rfl rfl rfl rfl rfl h.1, rS_c (σ := σ) (μ := μ) rfl rfl rfl rfl rfl rfl rfl rfl rfl rfl rfl rfl rfl rfl h.2.1, ⟨fun j hj => ⟨(h.2.2.1.1 j hj).1, b_upd (n := 30) (fun j hj => (h.2.2.1.1 j hj).2.1) j hj, (h.2.2.1.1 j hj).2.2⟩, h.2.2.1.2⟩, rO_c (σ := σ) (μ := μ) rfl rfl rfl rfl rfl h.2.2.2.1, rB_c (σ := σ) (μ := μ) rfl (fun i h1 h2 => (by first | rfl | (simp (disch := omega) only [up2_ne]))) rfl (fun i h1 h2 => (by first | rfl | (simp (disch := omega) only [up2_ne]))) h.2.2.2.2.1, rD_c (σ := σ) (μ := μ) (fun i h1 h2 _ _ _ => (by first | rfl | (simp (disch := omega) only [up2_ne]))) rfl rfl (fun i h1 h2 => (by first | rfl | (simp (disch := omega) only [up2_ne]))) h.2.2.2.2.2.1, rA_c (σ := σ) (μ := μ) (fun i h1 h2 => (by first | rfl | (simp (disch := omega) only [up2_ne]))) rfl (fun i h1 h2 => (by first | rfl | (simp (disch := omega) only [up2_ne]))) h.2.2.2.2.2.2⟩, fun Q q => ?_, fun Q q => ?_⟩
    · unfold wp_X9_swab
      repeat' first | exact q | assumption | with_reducible refine And.intro ?_ ?_ | (intro z; contradiction) | (intro z; exact absurd z (by decide)) | (intro z; exact absurd rfl z) | (intro x e; subst e) | intro _ | refine hc _ _ ?_
    · rw [e] at q
      unfold wp_X10_swab
      repeat' first | exact q | assumption | with_reducible refine And.intro ?_ ?_ | (intro z; contradiction) | (intro z; exact absurd z (by decide)) | (intro z; exact absurd rfl z) | (intro x e; subst e) | intro _ | refine hm _ _ ?_
  · skip
    refine ⟨-1, σ, μ, h, fun Q q => ?_, fun Q q => ?_⟩
    · unfold wp_X9_swab
      repeat' first | exact q | assumption | with_reducible refine And.intro ?_ ?_ | (intro z; contradiction) | (intro z; exact absurd z (by decide)) | (intro z; exact absurd rfl z) | (intro x e; subst e) | intro _ | refine hc _ _ ?_
    · unfold wp_X10_swab
      repeat' first | exact q | assumption | with_reducible refine And.intro ?_ ?_ | (intro z; contradiction) | (intro z; exact absurd z (by decide)) | (intro z; exact absurd rfl z) | (intro x e; subst e) | intro _ | refine hm _ _ ?_
set_option maxHeartbeats 1000000 in
theorem j_repair {σ μ : St} (h : RR σ μ) (a : Int32) : JJ RR (fun Q => wp_X9_repair Q a σ) (fun Q => wp_X10_repair Q a μ) := by
  rcases c_mld a with ⟨ha, hc, hm⟩ | ⟨hc, hm⟩
  · have hk := vp_lt ha
    have e := (h.2.2.1.1 _ hk).1
    refine ⟨σ 58 a.toNatClampNeg, up2 (up2 (up2 σ 58 a.toNatClampNeg 0) 59 a.toNatClampNeg 0) 60 a.toNatClampNeg (vp_nar .boolean 0), up2 (up2 (up2 μ 17 a.toNatClampNeg 0) 18 a.toNatClampNeg 0) 19 a.toNatClampNeg (vp_nar .boolean 0), ⟨rG_c (σ := σ) (μ := μ) rfl rfl rfl rfl rfl rfl h.1, rS_c (σ := σ) (μ := μ) rfl rfl rfl rfl rfl rfl rfl rfl rfl rfl rfl rfl rfl rfl h.2.1, ⟨fun j hj => ⟨b_upd (n := 30) (fun j hj => (h.2.2.1.1 j hj).1) j hj, b_upd (n := 30) (fun j hj => (h.2.2.1.1 j hj).2.1) j hj, (a_upd (P := fun x => x = 0 ∨ x = 1) (n := 30) (fun j hj => ⟨(h.2.2.1.1 j hj).2.2.1, (h.2.2.1.1 j hj).2.2.2.1⟩) (Or.inl zb0) j hj).1, (a_upd (P := fun x => x = 0 ∨ x = 1) (n := 30) (fun j hj => ⟨(h.2.2.1.1 j hj).2.2.1, (h.2.2.1.1 j hj).2.2.2.1⟩) (Or.inl zb0) j hj).2, (h.2.2.1.1 j hj).2.2.2.2⟩, h.2.2.1.2⟩, rO_c (σ := σ) (μ := μ) rfl rfl rfl rfl rfl h.2.2.2.1, rB_c (σ := σ) (μ := μ) rfl (fun i h1 h2 => (by first | rfl | (simp (disch := omega) only [up2_ne]))) rfl (fun i h1 h2 => (by first | rfl | (simp (disch := omega) only [up2_ne]))) h.2.2.2.2.1, rD_c (σ := σ) (μ := μ) (fun i h1 h2 _ _ _ => (by first | rfl | (simp (disch := omega) only [up2_ne]))) rfl rfl (fun i h1 h2 => (by first | rfl | (simp (disch := omega) only [up2_ne]))) h.2.2.2.2.2.1, rA_c (σ := σ) (μ := μ) (fun i h1 h2 => (by first | rfl | (simp (disch := omega) only [up2_ne]))) rfl (fun i h1 h2 => (by first | rfl | (simp (disch := omega) only [up2_ne]))) h.2.2.2.2.2.2⟩, fun Q q => ?_, fun Q q => ?_⟩
    · unfold wp_X9_repair wp_X5_makeNew
      repeat' first | exact q | assumption | with_reducible refine And.intro ?_ ?_ | (intro z; contradiction) | (intro z; exact absurd z (by decide)) | (intro z; exact absurd rfl z) | (intro x e; subst e) | intro _ | refine hc _ _ ?_
    · rw [e] at q
      unfold wp_X10_repair
      repeat' first | exact q | assumption | with_reducible refine And.intro ?_ ?_ | (intro z; contradiction) | (intro z; exact absurd z (by decide)) | (intro z; exact absurd rfl z) | (intro x e; subst e) | intro _ | refine hm _ _ ?_
  · skip
    refine ⟨-1, σ, μ, h, fun Q q => ?_, fun Q q => ?_⟩
    · unfold wp_X9_repair
      repeat' first | exact q | assumption | with_reducible refine And.intro ?_ ?_ | (intro z; contradiction) | (intro z; exact absurd z (by decide)) | (intro z; exact absurd rfl z) | (intro x e; subst e) | intro _ | refine hc _ _ ?_
    · unfold wp_X10_repair
      repeat' first | exact q | assumption | with_reducible refine And.intro ?_ ?_ | (intro z; contradiction) | (intro z; exact absurd z (by decide)) | (intro z; exact absurd rfl z) | (intro x e; subst e) | intro _ | refine hm _ _ ?_
set_option maxHeartbeats 1000000 in
theorem j_pull {σ μ : St} (h : RR σ μ) (a : Int32) (b : Int32) (hb : b = 0 ∨ b = 1) : JJ RR (fun Q => wp_X9_pull Q a b σ) (fun Q => wp_X10_pull Q a b μ) := by
  have e2 : vp_nar .boolean b = 0 ∨ vp_nar .boolean b = 1 := by
    rcases hb with rfl | rfl
    · exact Or.inl zb0
    · exact Or.inr zb1
  rcases c_mld a with ⟨ha, hc, hm⟩ | ⟨hc, hm⟩
  · have hk := vp_lt ha
    have e := (h.2.2.1.1 _ hk).2.2.1
    by_cases hg : σ 60 a.toNatClampNeg = b
    · have hg2 : μ 19 a.toNatClampNeg = b := e.symm.trans hg
      refine ⟨0, up2 σ 60 a.toNatClampNeg (vp_nar .boolean b), up2 μ 19 a.toNatClampNeg (vp_nar .boolean b), ⟨rG_c (σ := σ) (μ := μ) rfl rfl rfl rfl rfl rfl h.1, rS_c (σ := σ) (μ := μ) rfl rfl rfl rfl rfl rfl rfl rfl rfl rfl rfl rfl rfl rfl h.2.1, ⟨fun j hj => ⟨(h.2.2.1.1 j hj).1, (h.2.2.1.1 j hj).2.1, (a_upd (P := fun x => x = 0 ∨ x = 1) (n := 30) (fun j hj => ⟨(h.2.2.1.1 j hj).2.2.1, (h.2.2.1.1 j hj).2.2.2.1⟩) e2 j hj).1, (a_upd (P := fun x => x = 0 ∨ x = 1) (n := 30) (fun j hj => ⟨(h.2.2.1.1 j hj).2.2.1, (h.2.2.1.1 j hj).2.2.2.1⟩) e2 j hj).2, (h.2.2.1.1 j hj).2.2.2.2⟩, h.2.2.1.2⟩, rO_c (σ := σ) (μ := μ) rfl rfl rfl rfl rfl h.2.2.2.1, rB_c (σ := σ) (μ := μ) rfl (fun i h1 h2 => (by first | rfl | (simp (disch := omega) only [up2_ne]))) rfl (fun i h1 h2 => (by first | rfl | (simp (disch := omega) only [up2_ne]))) h.2.2.2.2.1, rD_c (σ := σ) (μ := μ) (fun i h1 h2 _ _ _ => (by first | rfl | (simp (disch := omega) only [up2_ne]))) rfl rfl (fun i h1 h2 => (by first | rfl | (simp (disch := omega) only [up2_ne]))) h.2.2.2.2.2.1, rA_c (σ := σ) (μ := μ) (fun i h1 h2 => (by first | rfl | (simp (disch := omega) only [up2_ne]))) rfl (fun i h1 h2 => (by first | rfl | (simp (disch := omega) only [up2_ne]))) h.2.2.2.2.2.2⟩, fun Q q => ?_, fun Q q => ?_⟩
      · unfold wp_X9_pull wb_X9_pull_27 wp_X9_asNumber
        repeat' first | exact q | assumption | with_reducible refine And.intro ?_ ?_ | (intro z; contradiction) | (intro z; exact absurd z (by decide)) | (intro z; exact absurd rfl z) | (intro x e; subst e) | intro _ | refine hc _ _ ?_
      · unfold wp_X10_pull
        repeat' first | exact q | assumption | with_reducible refine And.intro ?_ ?_ | (intro z; contradiction) | (intro z; exact absurd z (by decide)) | (intro z; exact absurd rfl z) | (intro x e; subst e) | intro _ | refine hm _ _ ?_
    · have hg2 : ¬ μ 19 a.toNatClampNeg = b := fun z => hg (e.trans z)
      refine ⟨1, up2 σ 60 a.toNatClampNeg (vp_nar .boolean b), up2 μ 19 a.toNatClampNeg (vp_nar .boolean b), ⟨rG_c (σ := σ) (μ := μ) rfl rfl rfl rfl rfl rfl h.1, rS_c (σ := σ) (μ := μ) rfl rfl rfl rfl rfl rfl rfl rfl rfl rfl rfl rfl rfl rfl h.2.1, ⟨fun j hj => ⟨(h.2.2.1.1 j hj).1, (h.2.2.1.1 j hj).2.1, (a_upd (P := fun x => x = 0 ∨ x = 1) (n := 30) (fun j hj => ⟨(h.2.2.1.1 j hj).2.2.1, (h.2.2.1.1 j hj).2.2.2.1⟩) e2 j hj).1, (a_upd (P := fun x => x = 0 ∨ x = 1) (n := 30) (fun j hj => ⟨(h.2.2.1.1 j hj).2.2.1, (h.2.2.1.1 j hj).2.2.2.1⟩) e2 j hj).2, (h.2.2.1.1 j hj).2.2.2.2⟩, h.2.2.1.2⟩, rO_c (σ := σ) (μ := μ) rfl rfl rfl rfl rfl h.2.2.2.1, rB_c (σ := σ) (μ := μ) rfl (fun i h1 h2 => (by first | rfl | (simp (disch := omega) only [up2_ne]))) rfl (fun i h1 h2 => (by first | rfl | (simp (disch := omega) only [up2_ne]))) h.2.2.2.2.1, rD_c (σ := σ) (μ := μ) (fun i h1 h2 _ _ _ => (by first | rfl | (simp (disch := omega) only [up2_ne]))) rfl rfl (fun i h1 h2 => (by first | rfl | (simp (disch := omega) only [up2_ne]))) h.2.2.2.2.2.1, rA_c (σ := σ) (μ := μ) (fun i h1 h2 => (by first | rfl | (simp (disch := omega) only [up2_ne]))) rfl (fun i h1 h2 => (by first | rfl | (simp (disch := omega) only [up2_ne]))) h.2.2.2.2.2.2⟩, fun Q q => ?_, fun Q q => ?_⟩
      · unfold wp_X9_pull wb_X9_pull_27 wp_X9_asNumber
        repeat' first | exact q | assumption | with_reducible refine And.intro ?_ ?_ | (intro z; contradiction) | (intro z; exact absurd z (by decide)) | (intro z; exact absurd rfl z) | (intro x e; subst e) | intro _ | refine hc _ _ ?_
      · unfold wp_X10_pull
        repeat' first | exact q | assumption | with_reducible refine And.intro ?_ ?_ | (intro z; contradiction) | (intro z; exact absurd z (by decide)) | (intro z; exact absurd rfl z) | (intro x e; subst e) | intro _ | refine hm _ _ ?_
  · skip
    refine ⟨-1, σ, μ, h, fun Q q => ?_, fun Q q => ?_⟩
    · unfold wp_X9_pull
      repeat' first | exact q | assumption | with_reducible refine And.intro ?_ ?_ | (intro z; contradiction) | (intro z; exact absurd z (by decide)) | (intro z; exact absurd rfl z) | (intro x e; subst e) | intro _ | refine hc _ _ ?_
    · unfold wp_X10_pull
      repeat' first | exact q | assumption | with_reducible refine And.intro ?_ ?_ | (intro z; contradiction) | (intro z; exact absurd z (by decide)) | (intro z; exact absurd rfl z) | (intro x e; subst e) | intro _ | refine hm _ _ ?_
set_option maxHeartbeats 1000000 in
theorem j_rule {σ μ : St} (h : RR σ μ) (a : Int32) (b : Int32) : JJ RR (fun Q => wp_X9_rule Q a b σ) (fun Q => wp_X10_rule Q a b μ) := by
  have hin0 : ∀ (Q : Int32 → St → Prop) (σ : St), Q 1 σ → wp_X10_in Q 0 0 1 σ := fun Q σ q => ⟨fun z => absurd z (by decide), fun _ => ⟨fun z => absurd z (by decide), fun _ => q⟩⟩
  have hin1 : ∀ (Q : Int32 → St → Prop) (σ : St), Q 1 σ → wp_X10_in Q 1 0 1 σ := fun Q σ q => ⟨fun z => absurd z (by decide), fun _ => ⟨fun z => absurd z (by decide), fun _ => q⟩⟩
  by_cases h0 : a = 0
  · subst h0
    rcases c_btw b (-200) 200 with ⟨h1, h2, hc2, hm2⟩ | ⟨hb, hc2, hm2⟩
    · have hr := rng h1 h2
      have hr : -200 ≤ b.toInt ∧ b.toInt ≤ 200 := hr
      have e := h.2.1.2.2.2.2.1.1
      refine ⟨σ 0 12, up2 σ 0 12 b, up2 μ 0 27 b, ⟨rG_c (σ := σ) (μ := μ) rfl rfl rfl rfl rfl rfl h.1, ⟨h.2.1.1, h.2.1.2.1, h.2.1.2.2.1, h.2.1.2.2.2.1, ⟨rfl, hr⟩, h.2.1.2.2.2.2.2.1, h.2.1.2.2.2.2.2.2⟩, rM_c (σ := σ) (μ := μ) rfl rfl rfl rfl rfl rfl rfl rfl rfl rfl rfl rfl h.2.2.1, rO_c (σ := σ) (μ := μ) rfl rfl rfl rfl rfl h.2.2.2.1, rB_c (σ := σ) (μ := μ) rfl (fun i h1 h2 => (by first | rfl | (simp (disch := omega) only [up2_ne]))) rfl (fun i h1 h2 => (by first | rfl | (simp (disch := omega) only [up2_ne]))) h.2.2.2.2.1, rD_c (σ := σ) (μ := μ) (fun i h1 h2 _ _ _ => (by first | rfl | (simp (disch := omega) only [up2_ne]))) rfl rfl (fun i h1 h2 => (by first | rfl | (simp (disch := omega) only [up2_ne]))) h.2.2.2.2.2.1, rA_c (σ := σ) (μ := μ) (fun i h1 h2 => (by first | rfl | (simp (disch := omega) only [up2_ne]))) rfl (fun i h1 h2 => (by first | rfl | (simp (disch := omega) only [up2_ne]))) h.2.2.2.2.2.2⟩, fun Q q => ?_, fun Q q => ?_⟩
      · unfold wp_X9_rule
        repeat' first | exact q | assumption | with_reducible refine And.intro ?_ ?_ | (intro z; contradiction) | (intro z; exact absurd z (by decide)) | (intro z; exact absurd rfl z) | (intro x e; subst e) | intro _ | refine hc2 _ _ ?_
      · rw [e] at q
        unfold wp_X10_rule wb_X10_rule_21 wb_X10_rule_34 wb_X10_rule_59
        repeat' first | exact q | assumption | with_reducible refine And.intro ?_ ?_ | (intro z; contradiction) | (intro z; exact absurd z (by decide)) | (intro z; exact absurd rfl z) | (intro x e; subst e) | intro _ | refine hin0 _ _ ?_ | refine hm2 _ _ ?_
    · skip
      refine ⟨-1000, σ, μ, h, fun Q q => ?_, fun Q q => ?_⟩
      · unfold wp_X9_rule wb_X9_rule_29
        repeat' first | exact q | assumption | with_reducible refine And.intro ?_ ?_ | (intro z; contradiction) | (intro z; exact absurd z (by decide)) | (intro z; exact absurd rfl z) | (intro x e; subst e) | intro _ | refine hc2 _ _ ?_
      · unfold wp_X10_rule wb_X10_rule_21 wb_X10_rule_34 wb_X10_rule_59
        repeat' first | exact q | assumption | with_reducible refine And.intro ?_ ?_ | (intro z; contradiction) | (intro z; exact absurd z (by decide)) | (intro z; exact absurd rfl z) | (intro x e; subst e) | intro _ | refine hin0 _ _ ?_ | refine hm2 _ _ ?_
  · by_cases h1 : a = 1
    · subst h1
      rcases c_btw b 1 1000 with ⟨h1, h2, hc2, hm2⟩ | ⟨hb, hc2, hm2⟩
      · have e := h.2.1.2.2.2.2.2.1
        refine ⟨σ 0 13, up2 σ 0 13 b, up2 μ 0 28 b, ⟨rG_c (σ := σ) (μ := μ) rfl rfl rfl rfl rfl rfl h.1, ⟨h.2.1.1, h.2.1.2.1, h.2.1.2.2.1, h.2.1.2.2.2.1, h.2.1.2.2.2.2.1, rfl, h.2.1.2.2.2.2.2.2⟩, rM_c (σ := σ) (μ := μ) rfl rfl rfl rfl rfl rfl rfl rfl rfl rfl rfl rfl h.2.2.1, rO_c (σ := σ) (μ := μ) rfl rfl rfl rfl rfl h.2.2.2.1, rB_c (σ := σ) (μ := μ) rfl (fun i h1 h2 => (by first | rfl | (simp (disch := omega) only [up2_ne]))) rfl (fun i h1 h2 => (by first | rfl | (simp (disch := omega) only [up2_ne]))) h.2.2.2.2.1, rD_c (σ := σ) (μ := μ) (fun i h1 h2 _ _ _ => (by first | rfl | (simp (disch := omega) only [up2_ne]))) rfl rfl (fun i h1 h2 => (by first | rfl | (simp (disch := omega) only [up2_ne]))) h.2.2.2.2.2.1, rA_c (σ := σ) (μ := μ) (fun i h1 h2 => (by first | rfl | (simp (disch := omega) only [up2_ne]))) rfl (fun i h1 h2 => (by first | rfl | (simp (disch := omega) only [up2_ne]))) h.2.2.2.2.2.2⟩, fun Q q => ?_, fun Q q => ?_⟩
        · unfold wp_X9_rule wb_X9_rule_29
          repeat' first | exact q | assumption | with_reducible refine And.intro ?_ ?_ | (intro z; contradiction) | (intro z; exact absurd z (by decide)) | (intro z; exact absurd rfl z) | (intro x e; subst e) | intro _ | refine hc2 _ _ ?_
        · rw [e] at q
          unfold wp_X10_rule wb_X10_rule_21 wb_X10_rule_34 wb_X10_rule_59
          repeat' first | exact q | assumption | with_reducible refine And.intro ?_ ?_ | (intro z; contradiction) | (intro z; exact absurd z (by decide)) | (intro z; exact absurd rfl z) | (intro x e; subst e) | intro _ | refine hin1 _ _ ?_ | refine hm2 _ _ ?_
      · skip
        refine ⟨-1000, σ, μ, h, fun Q q => ?_, fun Q q => ?_⟩
        · unfold wp_X9_rule wb_X9_rule_29
          repeat' first | exact q | assumption | with_reducible refine And.intro ?_ ?_ | (intro z; contradiction) | (intro z; exact absurd z (by decide)) | (intro z; exact absurd rfl z) | (intro x e; subst e) | intro _ | refine hc2 _ _ ?_
        · unfold wp_X10_rule wb_X10_rule_21 wb_X10_rule_34 wb_X10_rule_59
          repeat' first | exact q | assumption | with_reducible refine And.intro ?_ ?_ | (intro z; contradiction) | (intro z; exact absurd z (by decide)) | (intro z; exact absurd rfl z) | (intro x e; subst e) | intro _ | refine hin1 _ _ ?_ | refine hm2 _ _ ?_
    · have hm : ∀ (Q : Int32 → St → Prop) (σ : St), Q 0 σ → wp_X10_in Q a 0 1 σ := by
        rcases c_btw a 0 1 with ⟨g1, g2, _, _⟩ | ⟨_, _, hm⟩
        · exfalso
          have hr := rng g1 g2
          have hr : 0 ≤ a.toInt ∧ a.toInt ≤ 1 := hr
          have e0 : (0 : Int32).toInt = 0 := by decide
          have e1 : (1 : Int32).toInt = 1 := by decide
          rcases (show a.toInt = 0 ∨ a.toInt = 1 by omega) with z | z
          · exact h0 (Int32.toInt_inj.mp (z.trans e0.symm))
          · exact h1 (Int32.toInt_inj.mp (z.trans e1.symm))
        · exact hm
      refine ⟨-1000, σ, μ, h, fun Q q => ?_, fun Q q => ?_⟩
      · unfold wp_X9_rule wb_X9_rule_29
        repeat' first | exact q | assumption | with_reducible refine And.intro ?_ ?_ | (intro z; contradiction) | (intro z; exact absurd z (by decide)) | (intro z; exact absurd rfl z) | (intro x e; subst e) | intro _ | refine hm _ _ ?_
      · unfold wp_X10_rule
        repeat' first | exact q | assumption | with_reducible refine And.intro ?_ ?_ | (intro z; contradiction) | (intro z; exact absurd z (by decide)) | (intro z; exact absurd rfl z) | (intro x e; subst e) | intro _ | refine hm _ _ ?_
