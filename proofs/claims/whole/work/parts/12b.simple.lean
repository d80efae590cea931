/-! searches, and the calls that use them -/
set_option maxHeartbeats 1000000 in
theorem sof_loop {σ μ : St}  (he : ∀ j, j < 6 → σ 63 j = μ 14 j) (b : Int32) : ∀ (m i : Nat), i + m = 6 → (∀ j, j < i → σ 63 j ≠ b) → ∃ r : Int32, ((r = -1 ∧ ∀ j, j < 6 → σ 63 j ≠ b) ∨ ∃ k, k < 6 ∧ r = nI k ∧ σ 63 k = b) ∧ (∀ Q : Int32 → St → Prop, Q r σ → ∃ n, wl_X5_sectionOf_2 Q b n σ (nI i)) ∧ (∀ Q : Int32 → St → Prop, Q r μ → ∃ n, wl_X10_sectionOf_2 Q b n μ (nI i)) := by
  intro m
  induction m with
  | zero =>
    intro i hi hb
    have hi2 : i = 6 := by omega
    subst hi2
    exact ⟨-1, Or.inl ⟨rfl, hb⟩, fun Q q => ⟨1, ⟨fun _ => q, fun z => absurd (by decide) z⟩⟩, fun Q q => ⟨1, ⟨fun _ => q, fun z => absurd (by decide) z⟩⟩⟩
  | succ m ih =>
    intro i hi hb
    have hlt : ¬ nI 6 ≤ nI i := nI_ge (by omega) (by omega)
    have hin : vp_in (nI i) 6 := vp_in_nI (by omega) (by decide)
    have hcl : (nI i).toNatClampNeg = i := nI_clamp (by omega)
    have hC : ¬ (6 : Int32) ≤ nI i := by exact hlt
    have hM : ¬ (6 : Int32) ≤ nI i := by exact hlt
    by_cases hg : σ 63 i = b
    · refine ⟨nI i, Or.inr ⟨i, by omega, rfl, hg⟩, fun Q q => ⟨1, ⟨fun z => absurd z hC, fun _ => ⟨hin, ⟨fun z => absurd (by rw [hcl]; exact hg) z, fun _ => q⟩⟩⟩⟩, fun Q q => ⟨1, ⟨fun z => absurd z hM, fun _ => ⟨hin, ⟨fun z => absurd (by rw [hcl, ← he i (by omega)]; exact hg) z, fun _ => q⟩⟩⟩⟩⟩
    · obtain ⟨r, h1, h2, h3⟩ := ih (i + 1) (by omega) (fun j hj => by
        rcases Nat.lt_or_ge j i with z | z
        · exact hb j z
        · have : j = i := by omega
          subst this
          exact hg)
      refine ⟨r, h1, fun Q q => ?_, fun Q q => ?_⟩
      · obtain ⟨n, hn⟩ := h2 Q q
        exact ⟨n + 1, ⟨fun z => absurd z hC, fun _ => ⟨hin, ⟨fun _ => fun x e => by subst e; rw [nI_1]; exact hn, fun z => absurd (by rw [hcl] at z; exact z) hg⟩⟩⟩⟩
      · obtain ⟨n, hn⟩ := h3 Q q
        exact ⟨n + 1, ⟨fun z => absurd z hM, fun _ => ⟨hin, ⟨fun _ => fun x e => by subst e; rw [nI_1]; exact hn, fun z => absurd (by rw [hcl, ← he i (by omega)] at z; exact z) hg⟩⟩⟩⟩
theorem c_sof {σ μ : St} (h : rM σ μ) (b : Int32) : ∃ r : Int32, ((r = -1 ∧ ∀ j, j < 6 → σ 63 j ≠ b) ∨ ∃ k, k < 6 ∧ r = nI k ∧ σ 63 k = b) ∧ (∀ Q : Int32 → St → Prop, Q r σ → wp_X5_sectionOf Q b σ) ∧ (∀ Q : Int32 → St → Prop, Q r μ → wp_X10_sectionOf Q b μ) := sof_loop (fun j hj => (h.2 j hj).1) b 6 0 rfl (fun j hj => absurd hj (by omega))
set_option maxHeartbeats 1000000 in
theorem fnd_loop {σ μ : St} {n : Nat} (hn6 : n ≤ 6) (h1 : σ 55 2 = nI n) (h2 : μ 0 14 = nI n) (he : ∀ j, j < 6 → σ 56 j = μ 12 j) (b : Int32) : ∀ (m i : Nat), i + m = n → (∀ j, j < i → σ 56 j ≠ b) → ∃ r : Int32, ((r = -1 ∧ ∀ j, j < n → σ 56 j ≠ b) ∨ ∃ k, k < n ∧ r = nI k ∧ σ 56 k = b) ∧ (∀ Q : Int32 → St → Prop, Q r σ → ∃ n, wl_X6_find_2 Q b n σ (nI i)) ∧ (∀ Q : Int32 → St → Prop, Q r μ → ∃ n, wl_X10_placeInOrder_2 Q b n μ (nI i)) := by
  intro m
  induction m with
  | zero =>
    intro i hi hb
    have hi2 : i = n := by omega
    subst hi2
    exact ⟨-1, Or.inl ⟨rfl, hb⟩, fun Q q => ⟨1, ⟨fun _ => q, fun z => absurd (by rw [h1]; exact nI_le (Nat.le_refl _) (by omega)) z⟩⟩, fun Q q => ⟨1, ⟨fun _ => q, fun z => absurd (by rw [h2]; exact nI_le (Nat.le_refl _) (by omega)) z⟩⟩⟩
  | succ m ih =>
    intro i hi hb
    have hlt : ¬ nI n ≤ nI i := nI_ge (by omega) (by omega)
    have hin : vp_in (nI i) 6 := vp_in_nI (by omega) (by decide)
    have hcl : (nI i).toNatClampNeg = i := nI_clamp (by omega)
    have hC : ¬ (σ 55 2) ≤ nI i := by rw [h1]; exact hlt
    have hM : ¬ (μ 0 14) ≤ nI i := by rw [h2]; exact hlt
    by_cases hg : σ 56 i = b
    · refine ⟨nI i, Or.inr ⟨i, by omega, rfl, hg⟩, fun Q q => ⟨1, ⟨fun z => absurd z hC, fun _ => ⟨hin, ⟨fun z => absurd (by rw [hcl]; exact hg) z, fun _ => q⟩⟩⟩⟩, fun Q q => ⟨1, ⟨fun z => absurd z hM, fun _ => ⟨hin, ⟨fun z => absurd (by rw [hcl, ← he i (by omega)]; exact hg) z, fun _ => q⟩⟩⟩⟩⟩
    · obtain ⟨r, h1, h2, h3⟩ := ih (i + 1) (by omega) (fun j hj => by
        rcases Nat.lt_or_ge j i with z | z
        · exact hb j z
        · have : j = i := by omega
          subst this
          exact hg)
      refine ⟨r, h1, fun Q q => ?_, fun Q q => ?_⟩
      · obtain ⟨n, hn⟩ := h2 Q q
        exact ⟨n + 1, ⟨fun z => absurd z hC, fun _ => ⟨hin, ⟨fun _ => fun x e => by subst e; rw [nI_1]; exact hn, fun z => absurd (by rw [hcl] at z; exact z) hg⟩⟩⟩⟩
      · obtain ⟨n, hn⟩ := h3 Q q
        exact ⟨n + 1, ⟨fun z => absurd z hM, fun _ => ⟨hin, ⟨fun _ => fun x e => by subst e; rw [nI_1]; exact hn, fun z => absurd (by rw [hcl, ← he i (by omega)] at z; exact z) hg⟩⟩⟩⟩
theorem c_fnd {σ μ : St} {n : Nat} (hn6 : n ≤ 6) (h1 : σ 55 2 = nI n) (h2 : μ 0 14 = nI n) (he : ∀ j, j < 6 → σ 56 j = μ 12 j) (b : Int32) : ∃ r : Int32, ((r = -1 ∧ ∀ j, j < n → σ 56 j ≠ b) ∨ ∃ k, k < n ∧ r = nI k ∧ σ 56 k = b) ∧ (∀ Q : Int32 → St → Prop, Q r σ → wp_X6_find Q b σ) ∧ (∀ Q : Int32 → St → Prop, Q r μ → wp_X10_placeInOrder Q b μ) := fnd_loop hn6 h1 h2 he b n 0 (by omega) (fun j hj => absurd hj (by omega))
theorem nI_nm1 {k : Nat} (h : k < 100) : ¬ nI k = (-1 : Int32) := by
  intro z
  have h1 := congrArg Int32.toInt z
  rw [nI_toInt (by omega)] at h1
  have : (-1 : Int32).toInt = -1 := by decide
  omega
theorem nI_n0 {k : Nat} (h : k < 100) : ¬ nI k < 0 := nI_pos (by omega)
set_option maxHeartbeats 1000000 in
theorem j_mould {σ μ : St} (h : RR σ μ) (a : Int32) (b : Int32) : JJ RR (fun Q => wp_X9_mould Q a b σ) (fun Q => wp_X10_mould Q a b μ) := by
  rcases c_sec a with ⟨ha, hc, hm⟩ | ⟨hc, hm⟩
  · rcases c_mld b with ⟨hb, hc2, hm2⟩ | ⟨hc2, hm2⟩
    · obtain ⟨r, hr, hc3, hm3⟩ := c_sof h.2.2.1 b
      rcases hr with ⟨rfl, _⟩ | ⟨k, hk, rfl, _⟩
      · have hk := vp_lt ha
        have e := (h.2.2.1.2 _ hk).1
        refine ⟨σ 63 a.toNatClampNeg, up2 σ 63 a.toNatClampNeg b, up2 μ 14 a.toNatClampNeg b, ⟨rG_c (σ := σ) (μ := μ) rfl rfl rfl rfl rfl rfl h.1, rS_c (σ := σ) (μ := μ) rfl rfl rfl rfl rfl rfl rfl rfl rfl rfl rfl rfl rfl rfl h.2.1, ⟨h.2.2.1.1, a_upd (P := fun x => vp_in x 30) h.2.2.1.2 hb⟩, rO_c (σ := σ) (μ := μ) rfl rfl rfl rfl rfl h.2.2.2.1, rB_c (σ := σ) (μ := μ) rfl (fun i h1 h2 => (by first | rfl | (simp (disch := omega) only [up2_ne]))) rfl (fun i h1 h2 => (by first | rfl | (simp (disch := omega) only [up2_ne]))) h.2.2.2.2.1, rD_c (σ := σ) (μ := μ) (fun i h1 h2 _ _ _ => (by first | rfl | (simp (disch := omega) only [up2_ne]))) rfl rfl (fun i h1 h2 => (by first | rfl | (simp (disch := omega) only [up2_ne]))) h.2.2.2.2.2.1, rA_c (σ := σ) (μ := μ) (fun i h1 h2 => (by first | rfl | (simp (disch := omega) only [up2_ne]))) rfl (fun i h1 h2 => (by first | rfl | (simp (disch := omega) only [up2_ne]))) h.2.2.2.2.2.2⟩, fun Q q => ?_, fun Q q => ?_⟩
        · unfold wp_X9_mould
          repeat' first | exact q | assumption | with_reducible refine And.intro ?_ ?_ | (intro z; contradiction) | (intro z; exact absurd z (by decide)) | (intro z; exact absurd rfl z) | (intro x e; subst e) | intro _ | refine hc _ _ ?_ | refine hc2 _ _ ?_ | refine hc3 _ ?_
        · rw [e] at q
          unfold wp_X10_mould
          repeat' first | exact q | assumption | with_reducible refine And.intro ?_ ?_ | (intro z; contradiction) | (intro z; exact absurd z (by decide)) | (intro z; exact absurd rfl z) | (intro x e; subst e) | intro _ | refine hm _ _ ?_ | refine hm2 _ _ ?_ | refine hm3 _ ?_
      · have hn := nI_nm1 (k := k) (by omega)
        have hn0 := nI_n0 (k := k) (by omega)
        refine ⟨-3, σ, μ, h, fun Q q => ?_, fun Q q => ?_⟩
        · unfold wp_X9_mould
          repeat' first | exact q | assumption | with_reducible refine And.intro ?_ ?_ | (intro z; contradiction) | (intro z; exact absurd z (by decide)) | (intro z; exact absurd rfl z) | (intro x e; subst e) | intro _ | refine hc _ _ ?_ | refine hc2 _ _ ?_ | refine hc3 _ ?_
        · unfold wp_X10_mould
          repeat' first | exact q | assumption | with_reducible refine And.intro ?_ ?_ | (intro z; contradiction) | (intro z; exact absurd z (by decide)) | (intro z; exact absurd rfl z) | (intro x e; subst e) | intro _ | refine hm _ _ ?_ | refine hm2 _ _ ?_ | refine hm3 _ ?_
    · skip
      refine ⟨-1, σ, μ, h, fun Q q => ?_, fun Q q => ?_⟩
      · unfold wp_X9_mould
        repeat' first | exact q | assumption | with_reducible refine And.intro ?_ ?_ | (intro z; contradiction) | (intro z; exact absurd z (by decide)) | (intro z; exact absurd rfl z) | (intro x e; subst e) | intro _ | refine hc _ _ ?_ | refine hc2 _ _ ?_
      · unfold wp_X10_mould
        repeat' first | exact q | assumption | with_reducible refine And.intro ?_ ?_ | (intro z; contradiction) | (intro z; exact absurd z (by decide)) | (intro z; exact absurd rfl z) | (intro x e; subst e) | intro _ | refine hm _ _ ?_ | refine hm2 _ _ ?_
  · skip
    refine ⟨-1, σ, μ, h, fun Q q => ?_, fun Q q => ?_⟩
    · unfold wp_X9_mould
      repeat' first | exact q | assumption | with_reducible refine And.intro ?_ ?_ | (intro z; contradiction) | (intro z; exact absurd z (by decide)) | (intro z; exact absurd rfl z) | (intro x e; subst e) | intro _ | refine hc _ _ ?_
    · unfold wp_X10_mould
      repeat' first | exact q | assumption | with_reducible refine And.intro ?_ ?_ | (intro z; contradiction) | (intro z; exact absurd z (by decide)) | (intro z; exact absurd rfl z) | (intro x e; subst e) | intro _ | refine hm _ _ ?_
set_option maxHeartbeats 1000000 in
theorem j_book {σ μ : St} (h : RR σ μ) (a : Int32) (b : Int32) : JJ RR (fun Q => wp_X9_book Q a b σ) (fun Q => wp_X10_book Q a b μ) := by
  rcases c_mld a with ⟨ha, hc, hm⟩ | ⟨hc, hm⟩
  · have hk := vp_lt ha
    have e := h.2.2.1.1 _ hk
    obtain ⟨r, hr, hc3, hm3⟩ := c_sof h.2.2.1 a
    by_cases b0 : b = 0
    · subst b0
      refine ⟨σ 58 a.toNatClampNeg, σ, μ, h, fun Q q => ?_, fun Q q => ?_⟩
      · unfold wp_X9_book
        repeat' first | exact q | assumption | with_reducible refine And.intro ?_ ?_ | (intro z; contradiction) | (intro z; exact absurd z (by decide)) | (intro z; exact absurd rfl z) | (intro x e; subst e) | intro _ | refine hc _ _ ?_
      · rw [e.1] at q
        unfold wp_X10_book
        repeat' first | exact q | assumption | with_reducible refine And.intro ?_ ?_ | (intro z; contradiction) | (intro z; exact absurd z (by decide)) | (intro z; exact absurd rfl z) | (intro x e; subst e) | intro _ | refine hm _ _ ?_
    · skip
      by_cases b1 : b = 1
      · subst b1
        refine ⟨σ 59 a.toNatClampNeg, σ, μ, h, fun Q q => ?_, fun Q q => ?_⟩
        · unfold wp_X9_book
          repeat' first | exact q | assumption | with_reducible refine And.intro ?_ ?_ | (intro z; contradiction) | (intro z; exact absurd z (by decide)) | (intro z; exact absurd rfl z) | (intro x e; subst e) | intro _ | refine hc _ _ ?_
        · rw [e.2.1] at q
          unfold wp_X10_book
          repeat' first | exact q | assumption | with_reducible refine And.intro ?_ ?_ | (intro z; contradiction) | (intro z; exact absurd z (by decide)) | (intro z; exact absurd rfl z) | (intro x e; subst e) | intro _ | refine hm _ _ ?_
      · skip
        by_cases b2 : b = 2
        · subst b2
          have e3 := e.2.2.1
          by_cases hg : σ 60 a.toNatClampNeg = 0
          · have hg2 : μ 19 a.toNatClampNeg = 0 := e3.symm.trans hg
            refine ⟨0, σ, μ, h, fun Q q => ?_, fun Q q => ?_⟩
            · unfold wp_X9_book wp_X9_asNumber
              repeat' first | exact q | assumption | with_reducible refine And.intro ?_ ?_ | (intro z; contradiction) | (intro z; exact absurd z (by decide)) | (intro z; exact absurd rfl z) | (intro x e; subst e) | intro _ | refine hc _ _ ?_
            · unfold wp_X10_book
              repeat' first | exact q | assumption | with_reducible refine And.intro ?_ ?_ | (intro z; contradiction) | (intro z; exact absurd z (by decide)) | (intro z; exact absurd rfl z) | (intro x e; subst e) | intro _ | refine hm _ _ ?_
          · have hg2 : ¬ μ 19 a.toNatClampNeg = 0 := fun z => hg (e3.trans z)
            refine ⟨1, σ, μ, h, fun Q q => ?_, fun Q q => ?_⟩
            · unfold wp_X9_book wp_X9_asNumber
              repeat' first | exact q | assumption | with_reducible refine And.intro ?_ ?_ | (intro z; contradiction) | (intro z; exact absurd z (by decide)) | (intro z; exact absurd rfl z) | (intro x e; subst e) | intro _ | refine hc _ _ ?_
            · unfold wp_X10_book
              repeat' first | exact q | assumption | with_reducible refine And.intro ?_ ?_ | (intro z; contradiction) | (intro z; exact absurd z (by decide)) | (intro z; exact absurd rfl z) | (intro x e; subst e) | intro _ | refine hm _ _ ?_
        · skip
          by_cases b3 : b = 3
          · subst b3
            refine ⟨σ 61 a.toNatClampNeg, σ, μ, h, fun Q q => ?_, fun Q q => ?_⟩
            · unfold wp_X9_book
              repeat' first | exact q | assumption | with_reducible refine And.intro ?_ ?_ | (intro z; contradiction) | (intro z; exact absurd z (by decide)) | (intro z; exact absurd rfl z) | (intro x e; subst e) | intro _ | refine hc _ _ ?_
            · rw [e.2.2.2.2.1] at q
              unfold wp_X10_book
              repeat' first | exact q | assumption | with_reducible refine And.intro ?_ ?_ | (intro z; contradiction) | (intro z; exact absurd z (by decide)) | (intro z; exact absurd rfl z) | (intro x e; subst e) | intro _ | refine hm _ _ ?_
          · skip
            by_cases b4 : b = 4
            · subst b4
              refine ⟨σ 62 a.toNatClampNeg, σ, μ, h, fun Q q => ?_, fun Q q => ?_⟩
              · unfold wp_X9_book
                repeat' first | exact q | assumption | with_reducible refine And.intro ?_ ?_ | (intro z; contradiction) | (intro z; exact absurd z (by decide)) | (intro z; exact absurd rfl z) | (intro x e; subst e) | intro _ | refine hc _ _ ?_
              · rw [e.2.2.2.2.2] at q
                unfold wp_X10_book
                repeat' first | exact q | assumption | with_reducible refine And.intro ?_ ?_ | (intro z; contradiction) | (intro z; exact absurd z (by decide)) | (intro z; exact absurd rfl z) | (intro x e; subst e) | intro _ | refine hm _ _ ?_
            · skip
              by_cases b5 : b = 5
              · subst b5
                refine ⟨r, σ, μ, h, fun Q q => ?_, fun Q q => ?_⟩
                · unfold wp_X9_book
                  repeat' first | exact q | assumption | with_reducible refine And.intro ?_ ?_ | (intro z; contradiction) | (intro z; exact absurd z (by decide)) | (intro z; exact absurd rfl z) | (intro x e; subst e) | intro _ | refine hc _ _ ?_ | refine hc3 _ ?_
                · unfold wp_X10_book
                  repeat' first | exact q | assumption | with_reducible refine And.intro ?_ ?_ | (intro z; contradiction) | (intro z; exact absurd z (by decide)) | (intro z; exact absurd rfl z) | (intro x e; subst e) | intro _ | refine hm _ _ ?_ | refine hm3 _ ?_
              · skip
                refine ⟨-1, σ, μ, h, fun Q q => ?_, fun Q q => ?_⟩
                · unfold wp_X9_book
                  repeat' first | exact q | assumption | with_reducible refine And.intro ?_ ?_ | (intro z; contradiction) | (intro z; exact absurd z (by decide)) | (intro z; exact absurd rfl z) | (intro x e; subst e) | intro _ | refine hc _ _ ?_
                · unfold wp_X10_book
                  repeat' first | exact q | assumption | with_reducible refine And.intro ?_ ?_ | (intro z; contradiction) | (intro z; exact absurd z (by decide)) | (intro z; exact absurd rfl z) | (intro x e; subst e) | intro _ | refine hm _ _ ?_
  · skip
    refine ⟨-1, σ, μ, h, fun Q q => ?_, fun Q q => ?_⟩
    · unfold wp_X9_book
      repeat' first | exact q | assumption | with_reducible refine And.intro ?_ ?_ | (intro z; contradiction) | (intro z; exact absurd z (by decide)) | (intro z; exact absurd rfl z) | (intro x e; subst e) | intro _ | refine hc _ _ ?_
    · unfold wp_X10_book
      repeat' first | exact q | assumption | with_reducible refine And.intro ?_ ?_ | (intro z; contradiction) | (intro z; exact absurd z (by decide)) | (intro z; exact absurd rfl z) | (intro x e; subst e) | intro _ | refine hm _ _ ?_
set_option maxHeartbeats 1000000 in
theorem j_many {σ μ : St} (h : RR σ μ) (a : Int32) : JJ RR (fun Q => wp_X9_many Q a σ) (fun Q => wp_X10_many Q a μ) := by
  rcases c_btw a 2 8 with ⟨h1, h2, hc, hm⟩ | ⟨ha, hc, hm⟩
  · have hr := rng h1 h2
    have hr : 2 ≤ a.toInt ∧ a.toInt ≤ 8 := hr
    have e2 : (2 : Int32).toInt = 2 := by decide
    have hin : vp_in (a - 2) 7 := by
      rw [vp_in_iff, ti_sub (by omega) (by omega)]
      omega
    have e := h.2.1.1 _ (vp_lt hin)
    refine ⟨σ 81 (a - 2).toNatClampNeg, σ, μ, h, fun Q q => ?_, fun Q q => ?_⟩
    · unfold wp_X9_many
      repeat' first | exact q | assumption | with_reducible refine And.intro ?_ ?_ | (intro z; contradiction) | (intro z; exact absurd z (by decide)) | (intro z; exact absurd rfl z) | (intro x e; subst e) | intro _ | refine hc _ _ ?_
    · rw [e] at q
      unfold wp_X10_many
      repeat' first | exact q | assumption | with_reducible refine And.intro ?_ ?_ | (intro z; contradiction) | (intro z; exact absurd z (by decide)) | (intro z; exact absurd rfl z) | (intro x e; subst e) | intro _ | refine hm _ _ ?_
  · skip
    have hbe : σ 64 2 = μ 0 32 := by
      obtain ⟨e, n, _, _, _, z1, z2, _⟩ := h.2.2.2.2.1
      rw [z1, z2]
    obtain ⟨n, t, hn, o1, o2, o3, o4, o5, o6, o7, o8⟩ := h.2.2.2.1
    have hor : σ 55 2 = μ 0 14 := by rw [o1, o2]
    have hla : σ 1 3 = μ 0 2 := by
      obtain ⟨n, _, z1, z2, _⟩ := h.2.2.2.2.2.1
      rw [z1, z2]
    have hpa : σ 1 4 = μ 0 7 := by
      obtain ⟨n, _, _, _, z, _⟩ := h.2.2.2.2.2.1
      exact z
    by_cases b0 : a = 0
    · subst b0
      refine ⟨σ 0 14, σ, μ, h, fun Q q => ?_, fun Q q => ?_⟩
      · unfold wp_X9_many
        repeat' first | exact q | assumption | with_reducible refine And.intro ?_ ?_ | (intro z; contradiction) | (intro z; exact absurd z (by decide)) | (intro z; exact absurd rfl z) | (intro x e; subst e) | intro _ | refine hc _ _ ?_
      · rw [h.2.1.2.2.2.2.2.2] at q
        unfold wp_X10_many
        repeat' first | exact q | assumption | with_reducible refine And.intro ?_ ?_ | (intro z; contradiction) | (intro z; exact absurd z (by decide)) | (intro z; exact absurd rfl z) | (intro x e; subst e) | intro _ | refine hm _ _ ?_
    · skip
      by_cases b1 : a = 1
      · subst b1
        refine ⟨σ 64 2, σ, μ, h, fun Q q => ?_, fun Q q => ?_⟩
        · unfold wp_X9_many
          repeat' first | exact q | assumption | with_reducible refine And.intro ?_ ?_ | (intro z; contradiction) | (intro z; exact absurd z (by decide)) | (intro z; exact absurd rfl z) | (intro x e; subst e) | intro _ | refine hc _ _ ?_
        · rw [hbe] at q
          unfold wp_X10_many
          repeat' first | exact q | assumption | with_reducible refine And.intro ?_ ?_ | (intro z; contradiction) | (intro z; exact absurd z (by decide)) | (intro z; exact absurd rfl z) | (intro x e; subst e) | intro _ | refine hm _ _ ?_
      · skip
        by_cases b9 : a = 9
        · subst b9
          refine ⟨σ 55 2, σ, μ, h, fun Q q => ?_, fun Q q => ?_⟩
          · unfold wp_X9_many
            repeat' first | exact q | assumption | with_reducible refine And.intro ?_ ?_ | (intro z; contradiction) | (intro z; exact absurd z (by decide)) | (intro z; exact absurd rfl z) | (intro x e; subst e) | intro _ | refine hc _ _ ?_
          · rw [hor] at q
            unfold wp_X10_many
            repeat' first | exact q | assumption | with_reducible refine And.intro ?_ ?_ | (intro z; contradiction) | (intro z; exact absurd z (by decide)) | (intro z; exact absurd rfl z) | (intro x e; subst e) | intro _ | refine hm _ _ ?_
        · skip
          by_cases b10 : a = 10
          · subst b10
            refine ⟨σ 0 11, σ, μ, h, fun Q q => ?_, fun Q q => ?_⟩
            · unfold wp_X9_many
              repeat' first | exact q | assumption | with_reducible refine And.intro ?_ ?_ | (intro z; contradiction) | (intro z; exact absurd z (by decide)) | (intro z; exact absurd rfl z) | (intro x e; subst e) | intro _ | refine hc _ _ ?_
            · rw [h.2.1.2.2.2.1.1] at q
              unfold wp_X10_many
              repeat' first | exact q | assumption | with_reducible refine And.intro ?_ ?_ | (intro z; contradiction) | (intro z; exact absurd z (by decide)) | (intro z; exact absurd rfl z) | (intro x e; subst e) | intro _ | refine hm _ _ ?_
          · skip
            by_cases b11 : a = 11
            · subst b11
              by_cases hg : σ 55 2 = 0
              · have hg2 : μ 0 14 = 0 := hor.symm.trans hg
                refine ⟨-1, σ, μ, h, fun Q q => ?_, fun Q q => ?_⟩
                · unfold wp_X9_many wp_X6_next
                  repeat' first | exact q | assumption | with_reducible refine And.intro ?_ ?_ | (intro z; contradiction) | (intro z; exact absurd z (by decide)) | (intro z; exact absurd rfl z) | (intro x e; subst e) | intro _ | refine hc _ _ ?_
                · unfold wp_X10_many
                  repeat' first | exact q | assumption | with_reducible refine And.intro ?_ ?_ | (intro z; contradiction) | (intro z; exact absurd z (by decide)) | (intro z; exact absurd rfl z) | (intro x e; subst e) | intro _ | refine hm _ _ ?_
              · have hg2 : ¬ μ 0 14 = 0 := fun z => hg (hor.trans z)
                have ht : t < n := by
                  rcases o5 with z | ⟨z, _⟩
                  · exact z
                  · exact absurd (by rw [o1, z]; rfl) hg
                have hin : vp_in (σ 55 1) 6 := by rw [o3]; exact vp_in_nI (by omega) (by decide)
                have hin2 : vp_in (μ 0 16) 6 := by rw [o4]; exact vp_in_nI (by omega) (by decide)
                have e : σ 56 (σ 55 1).toNatClampNeg = μ 12 (μ 0 16).toNatClampNeg := by rw [o3, o4, nI_clamp (by omega)]; exact o6 t (by omega)
                refine ⟨σ 56 (σ 55 1).toNatClampNeg, σ, μ, h, fun Q q => ?_, fun Q q => ?_⟩
                · unfold wp_X9_many wp_X6_next
                  repeat' first | exact q | assumption | with_reducible refine And.intro ?_ ?_ | (intro z; contradiction) | (intro z; exact absurd z (by decide)) | (intro z; exact absurd rfl z) | (intro x e; subst e) | intro _ | refine hc _ _ ?_
                · rw [e] at q
                  unfold wp_X10_many
                  repeat' first | exact q | assumption | with_reducible refine And.intro ?_ ?_ | (intro z; contradiction) | (intro z; exact absurd z (by decide)) | (intro z; exact absurd rfl z) | (intro x e; subst e) | intro _ | refine hm _ _ ?_
            · skip
              by_cases b12 : a = 12
              · subst b12
                refine ⟨σ 0 10, σ, μ, h, fun Q q => ?_, fun Q q => ?_⟩
                · unfold wp_X9_many
                  repeat' first | exact q | assumption | with_reducible refine And.intro ?_ ?_ | (intro z; contradiction) | (intro z; exact absurd z (by decide)) | (intro z; exact absurd rfl z) | (intro x e; subst e) | intro _ | refine hc _ _ ?_
                · rw [h.2.1.2.2.1] at q
                  unfold wp_X10_many
                  repeat' first | exact q | assumption | with_reducible refine And.intro ?_ ?_ | (intro z; contradiction) | (intro z; exact absurd z (by decide)) | (intro z; exact absurd rfl z) | (intro x e; subst e) | intro _ | refine hm _ _ ?_
              · skip
                by_cases b13 : a = 13
                · subst b13
                  refine ⟨σ 1 3, σ, μ, h, fun Q q => ?_, fun Q q => ?_⟩
                  · unfold wp_X9_many
                    repeat' first | exact q | assumption | with_reducible refine And.intro ?_ ?_ | (intro z; contradiction) | (intro z; exact absurd z (by decide)) | (intro z; exact absurd rfl z) | (intro x e; subst e) | intro _ | refine hc _ _ ?_
                  · rw [hla] at q
                    unfold wp_X10_many
                    repeat' first | exact q | assumption | with_reducible refine And.intro ?_ ?_ | (intro z; contradiction) | (intro z; exact absurd z (by decide)) | (intro z; exact absurd rfl z) | (intro x e; subst e) | intro _ | refine hm _ _ ?_
                · skip
                  by_cases b14 : a = 14
                  · subst b14
                    refine ⟨σ 1 4, σ, μ, h, fun Q q => ?_, fun Q q => ?_⟩
                    · unfold wp_X9_many
                      repeat' first | exact q | assumption | with_reducible refine And.intro ?_ ?_ | (intro z; contradiction) | (intro z; exact absurd z (by decide)) | (intro z; exact absurd rfl z) | (intro x e; subst e) | intro _ | refine hc _ _ ?_
                    · rw [hpa] at q
                      unfold wp_X10_many
                      repeat' first | exact q | assumption | with_reducible refine And.intro ?_ ?_ | (intro z; contradiction) | (intro z; exact absurd z (by decide)) | (intro z; exact absurd rfl z) | (intro x e; subst e) | intro _ | refine hm _ _ ?_
                  · skip
                    by_cases b15 : a = 15
                    · subst b15
                      refine ⟨σ 0 9, σ, μ, h, fun Q q => ?_, fun Q q => ?_⟩
                      · unfold wp_X9_many
                        repeat' first | exact q | assumption | with_reducible refine And.intro ?_ ?_ | (intro z; contradiction) | (intro z; exact absurd z (by decide)) | (intro z; exact absurd rfl z) | (intro x e; subst e) | intro _ | refine hc _ _ ?_
                      · rw [h.2.1.2.1] at q
                        unfold wp_X10_many
                        repeat' first | exact q | assumption | with_reducible refine And.intro ?_ ?_ | (intro z; contradiction) | (intro z; exact absurd z (by decide)) | (intro z; exact absurd rfl z) | (intro x e; subst e) | intro _ | refine hm _ _ ?_
                    · skip
                      refine ⟨-1, σ, μ, h, fun Q q => ?_, fun Q q => ?_⟩
                      · unfold wp_X9_many
                        repeat' first | exact q | assumption | with_reducible refine And.intro ?_ ?_ | (intro z; contradiction) | (intro z; exact absurd z (by decide)) | (intro z; exact absurd rfl z) | (intro x e; subst e) | intro _ | refine hc _ _ ?_
                      · unfold wp_X10_many
                        repeat' first | exact q | assumption | with_reducible refine And.intro ?_ ?_ | (intro z; contradiction) | (intro z; exact absurd z (by decide)) | (intro z; exact absurd rfl z) | (intro x e; subst e) | intro _ | refine hm _ _ ?_
