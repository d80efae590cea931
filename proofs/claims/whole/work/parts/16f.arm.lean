/-! arms: the calls knot, forget, place, nearest -/
theorem RR_arm {σ μ σ' μ' : St} (h : RR σ μ) (e : ∀ c, c < 41 ∨ 55 ≤ c → σ' c = σ c) (f : ∀ c, 1 ≤ c → c < 7 ∨ 12 ≤ c → c ≠ 30 → c ≠ 31 → μ' c = μ c) (f0 : ∀ k, k ≠ 11 → k ≠ 41 → k ≠ 42 → μ' 0 k = μ 0 k) (hA : rA σ' μ') : RR σ' μ' := by
  have e0 : σ' 0 = σ 0 := e 0 (Or.inl (by omega))
  obtain ⟨hG, hS, hM, hO, hB, hD, _⟩ := h
  refine ⟨rG_c (e _ (by omega)) (e _ (by omega)) (e _ (by omega)) (f _ (by omega) (by omega) (by omega) (by omega)) (f _ (by omega) (by omega) (by omega) (by omega)) (f _ (by omega) (by omega) (by omega) (by omega)) hG, ?_, ?_, ?_, ?_, ?_, hA⟩
  · exact rS_c (e _ (by omega)) (by rw [e0]) (by rw [e0]) (by rw [e0]) (by rw [e0]) (by rw [e0]) (by rw [e0]) (f _ (by omega) (by omega) (by omega) (by omega)) (f0 _ (by omega) (by omega) (by omega)) (f0 _ (by omega) (by omega) (by omega)) (f0 _ (by omega) (by omega) (by omega)) (f0 _ (by omega) (by omega) (by omega)) (f0 _ (by omega) (by omega) (by omega)) (f0 _ (by omega) (by omega) (by omega)) hS
  · exact rM_c (e _ (by omega)) (e _ (by omega)) (e _ (by omega)) (e _ (by omega)) (e _ (by omega)) (e _ (by omega)) (f _ (by omega) (by omega) (by omega) (by omega)) (f _ (by omega) (by omega) (by omega) (by omega)) (f _ (by omega) (by omega) (by omega) (by omega)) (f _ (by omega) (by omega) (by omega) (by omega)) (f _ (by omega) (by omega) (by omega) (by omega)) (f _ (by omega) (by omega) (by omega) (by omega)) hM
  · exact rO_c (e _ (by omega)) (e _ (by omega)) (f0 _ (by omega) (by omega) (by omega)) (f0 _ (by omega) (by omega) (by omega)) (f _ (by omega) (by omega) (by omega) (by omega)) hO
  · exact rB_c (e _ (by omega)) (fun i h1 h2 => e _ (by omega)) (f0 _ (by omega) (by omega) (by omega)) (fun i h1 h2 => f _ (by omega) (by omega) (by omega) (by omega)) hB
  · exact rD_c (fun i h1 h2 _ _ _ => e _ (by omega)) (f0 _ (by omega) (by omega) (by omega)) (f0 _ (by omega) (by omega) (by omega)) (fun i h1 h2 => f _ (by omega) (by omega) (by omega) (by omega)) hD
theorem RR_scr {σ μ μ' : St} (h : RR σ μ) (s : scr μ μ') : RR σ μ' := RR_arm h (fun _ _ => rfl) (fun c h1 _ _ _ => s.1 c (by omega)) (fun k _ h1 h2 => s.2 k h1 h2) (rA_c (fun _ _ _ => rfl) (s.2 11 (by omega) (by omega)) (fun i h1 _ => s.1 i (by omega)) h.2.2.2.2.2.2)
theorem rA_arms {σ μ : St} (h : rA σ μ) : ∃ pm ct : Nat → Nat, cArms σ pm ct ∧ mArms μ σ pm ct := by
  obtain ⟨pm, ct, h1, h2, h3, h4, h5, h6, h7, h8, h9, h10, h11, h12⟩ := h
  refine ⟨pm, ct, fun i hi => ⟨h1 i (by omega), h3 i hi, (h6 i (by omega)).2, h5 i hi, (h6 i (by omega)).1, fun k hk => ?_, fun k hk => ?_⟩, fun i hi => ⟨h7 i hi, fun k hk => ?_⟩⟩
  · rw [show 43 + 3 * pm i + 1 = 44 + 3 * pm i from by omega, show 43 + 3 * pm i + 2 = 45 + 3 * pm i from by omega]
    exact h11 i k (by omega) hk
  · rw [show 43 + 3 * pm i + 1 = 44 + 3 * pm i from by omega]
    exact h12 i k (by omega) hk
  · rw [show 43 + 3 * pm i + 1 = 44 + 3 * pm i from by omega, show 43 + 3 * pm i + 2 = 45 + 3 * pm i from by omega]
    exact ⟨(h9 i k hi hk).1.symm, (h9 i k hi hk).2.symm⟩
set_option maxHeartbeats 1000000 in
theorem j_nearest {σ μ : St} (h : RR σ μ) (a b : Int32) : JJ RR (fun Q => wp_X9_nearest Q a b σ) (fun Q => wp_X10_nearest Q a b μ) := by
  rcases c_arm a with ⟨ha, hc, hm⟩ | ⟨hc, hm⟩
  · rcases c_arm b with ⟨hb, hc2, hm2⟩ | ⟨hc2, hm2⟩
    · by_cases hab : a < b
      · obtain ⟨i, hi, ea⟩ := vp_in_of ha (by decide)
        have ea := ea.symm
        subst ea
        obtain ⟨j, hj, eb⟩ := vp_in_of hb (by decide)
        have eb := eb.symm
        subst eb
        obtain ⟨pm, ct, hC, hM⟩ := rA_arms h.2.2.2.2.2.2
        obtain ⟨i1, i2, i3, i4⟩ := hC i hi
        obtain ⟨j1, j2, j3, j4⟩ := hC j hj
        have ci : (nI i).toNatClampNeg = i := nI_clamp (by omega)
        have cj : (nI j).toNatClampNeg = j := nI_clamp (by omega)
        have bi : (nI (43 + 3 * pm i)).toNatClampNeg = 43 + 3 * pm i := nI_clamp (by omega)
        have bj : (nI (43 + 3 * pm j)).toNatClampNeg = 43 + 3 * pm j := nI_clamp (by omega)
        obtain ⟨r, hr, hq⟩ := near_c i4 i3 j4 j3
        obtain ⟨r2, μ', s, hr2, hq2⟩ := near_m0 hi hj i4 j4 (hM i hi) (hM j hj)
        have er : r2 = r := best_min i4 j4 hr2 hr
        refine ⟨nI r, σ, μ', RR_scr h s, fun Q q => hc _ _ ⟨fun z => absurd z (by decide), fun _ => hc2 _ _ ⟨fun z => absurd z (by decide), fun _ => ⟨fun _ => ?_, fun z => absurd hab z⟩⟩⟩, fun Q q => hm _ _ ⟨fun z => absurd z (by decide), fun _ => hm2 _ _ ⟨fun z => absurd z (by decide), fun _ => ⟨fun _ => ?_, fun z => absurd hab z⟩⟩⟩⟩
        · rw [ci, cj, i2, j2, bi, bj]
          exact ⟨ha, kcArm i1, hb, kcArm j1, hq _ q⟩
        · rw [← er] at q
          exact hq2 Q q
      · exact ⟨-1, σ, μ, h, fun Q q => hc _ _ ⟨fun z => absurd z (by decide), fun _ => hc2 _ _ ⟨fun z => absurd z (by decide), fun _ => ⟨fun z => absurd z hab, fun _ => q⟩⟩⟩, fun Q q => hm _ _ ⟨fun z => absurd z (by decide), fun _ => hm2 _ _ ⟨fun z => absurd z (by decide), fun _ => ⟨fun z => absurd z hab, fun _ => q⟩⟩⟩⟩
    · exact ⟨-1, σ, μ, h, fun Q q => hc _ _ ⟨fun z => absurd z (by decide), fun _ => hc2 _ _ ⟨fun _ => q, fun z => absurd rfl z⟩⟩, fun Q q => hm _ _ ⟨fun z => absurd z (by decide), fun _ => hm2 _ _ ⟨fun _ => q, fun z => absurd rfl z⟩⟩⟩
  · exact ⟨-1, σ, μ, h, fun Q q => hc _ _ ⟨fun _ => q, fun z => absurd rfl z⟩, fun Q q => hm _ _ ⟨fun _ => q, fun z => absurd rfl z⟩⟩
/-! the greatest divisor -/
theorem mx1 {g : Nat} (h : 1 ≤ g) (h2 : g < 2 ^ 31) : (if (1 : Int32) < nI g then nI g else (1 : Int32)) = nI g := by
  have t1 : (1 : Int32).toInt = 1 := by decide
  have tg : (nI g).toInt = (g : Int) := nI_toInt h2
  by_cases z : (1 : Int32) < nI g
  · rw [if_pos z]
  · rw [if_neg z]
    rw [Int32.lt_iff_toInt_lt, t1, tg] at z
    have : g = 1 := by omega
    rw [this]; rfl
theorem nI_nz {k : Nat} (h0 : k ≠ 0) (h : k < 2 ^ 31) : ¬ nI k = 0 := by
  intro z
  have := congrArg Int32.toInt z
  rw [nI_toInt h] at this
  have z0 : (0 : Int32).toInt = 0 := by decide
  omega
set_option maxHeartbeats 1000000 in
theorem gd_loop {σ : St} : ∀ (m x y v : Nat), y < 2 ^ m → v + 2 * m ≤ 64 → x < 2 ^ 31 → y < 2 ^ 31 → 0 < Nat.gcd y x → ∀ Q : Int32 → St → Prop, Q (nI (Nat.gcd y x)) σ → ∃ fu, wl_X9_greatestDivisor_7 Q fu σ (nI x) (nI y) (nI v) := by
  have stop : ∀ (x v : Nat), x < 2 ^ 31 → 0 < x → ∀ Q : Int32 → St → Prop, Q (nI x) σ → ∃ fu, wl_X9_greatestDivisor_7 Q fu σ (nI x) (nI 0) (nI v) := by
    intro x v hx h0 Q q
    have e := mx1 (g := x) h0 hx
    refine ⟨1, ⟨fun _ => ?_, fun _ => ⟨fun _ => ?_, fun z => absurd rfl z⟩⟩⟩
    · rw [e]; exact q
    · rw [e]; exact q
  intro m
  induction m with
  | zero =>
    intro x y v hy hv hx hy2 hg Q q
    have y0 : y = 0 := by omega
    subst y0
    rw [Nat.gcd_zero_left] at hg q
    exact stop x v hx hg Q q
  | succ m ih =>
    intro x y v hy hv hx hy2 hg Q q
    by_cases y0 : y = 0
    · subst y0
      rw [Nat.gcd_zero_left] at hg q
      exact stop x v hx hg Q q
    · have nv : ¬ (64 : Int32) ≤ nI v := nI_ge (b := 64) (by omega) (by omega)
      have ny := nI_nz y0 hy2
      have er : jrem (nI x) (nI y) = nI (x % y) := jrem_nI hx (by omega) hy2
      have hr : x % y < y := Nat.mod_lt _ (by omega)
      have eg : Nat.gcd y x = Nat.gcd (x % y) y := Nat.gcd_rec y x
      rw [eg] at hg q
      have next : (∃ fu, wl_X9_greatestDivisor_7 Q fu σ (nI y) (nI (x % y)) (nI (v + 1))) → ∃ fu, wl_X9_greatestDivisor_7 Q fu σ (nI x) (nI y) (nI v) := by
        intro hf
        obtain ⟨fu, hfu⟩ := hf
        refine ⟨fu + 1, ⟨fun z => absurd z nv, fun _ => ⟨fun z => absurd z ny, fun _ => ⟨ny, fun r er2 w ew => ?_⟩⟩⟩⟩
        subst ew; subst er2
        rw [er, nI_1]
        exact hfu
      apply next
      generalize hrr : x % y = r at *
      by_cases r0 : r = 0
      · subst r0
        rw [Nat.gcd_zero_left] at hg q
        exact stop y (v + 1) hy2 hg Q q
      · have nv1 : ¬ (64 : Int32) ≤ nI (v + 1) := nI_ge (b := 64) (by omega) (by omega)
        have nr := nI_nz r0 (by omega)
        have er2 : jrem (nI y) (nI r) = nI (y % r) := jrem_nI hy2 (by omega) (by omega)
        have hr2 : y % r < r := Nat.mod_lt _ (by omega)
        have hr3 : y % r ≤ y - r := by
          rw [Nat.mod_eq_sub_mod (by omega)]
          exact Nat.mod_le _ _
        have hp : 2 ^ (m + 1) = 2 ^ m * 2 := Nat.pow_succ 2 m
        have eg2 : Nat.gcd r y = Nat.gcd (y % r) r := Nat.gcd_rec r y
        rw [eg2] at hg q
        obtain ⟨fu, hfu⟩ := ih r (y % r) (v + 1 + 1) (by omega) (by omega) (by omega) (by omega) hg Q q
        refine ⟨fu + 1, ⟨fun z => absurd z nv1, fun _ => ⟨fun z => absurd z nr, fun _ => ⟨nr, fun r er3 w ew => ?_⟩⟩⟩⟩
        subst ew; subst er3
        rw [er2, nI_1]
        exact hfu
theorem cm_loop {μ : St} : ∀ (y x : Nat), x < 2 ^ 31 → y < 2 ^ 31 → ∀ Q : Int32 → St → Prop, Q (nI (Nat.gcd y x)) μ → ∃ fu, wl_X10_common_4 Q fu μ (nI x) (nI y) := by
  intro y
  induction y using Nat.strongRecOn with
  | ind y ih =>
    intro x hx hy Q q
    by_cases y0 : y = 0
    · subst y0
      rw [Nat.gcd_zero_left] at q
      exact ⟨1, ⟨fun _ => q, fun z => absurd rfl z⟩⟩
    · have ny := nI_nz y0 hy
      have er : jrem (nI x) (nI y) = nI (x % y) := jrem_nI hx (by omega) hy
      have hr : x % y < y := Nat.mod_lt _ (by omega)
      rw [Nat.gcd_rec y x] at q
      obtain ⟨fu, hfu⟩ := ih (x % y) hr y hy (by omega) Q q
      refine ⟨fu + 1, ⟨fun z => absurd z ny, fun _ => ⟨ny, fun r er2 => ?_⟩⟩⟩
      subst er2
      rw [er]
      exact hfu
set_option maxHeartbeats 1000000 in
theorem j_place {σ μ : St} (h : RR σ μ) (a b c : Int32) : JJ RR (fun Q => wp_X9_place Q a b c σ) (fun Q => wp_X10_place Q a b c μ) := by
  rcases c_arm a with ⟨ha, hc, hm⟩ | ⟨hc, hm⟩
  · rcases c_deg b with ⟨hb, hc2, hm2⟩ | ⟨hc2, hm2⟩
    · rcases c_btw c 0 1 with ⟨h1, h2, hc3, hm3⟩ | ⟨hno, hc3, hm3⟩
      · obtain ⟨i, hi, ea⟩ := vp_in_of ha (by decide)
        have ea := ea.symm
        subst ea
        have hd := deg_of hb
        obtain ⟨pm, ct, hC, hM⟩ := rA_arms h.2.2.2.2.2.2
        obtain ⟨i1, i2, i3, i4⟩ := hC i hi
        have ci : (nI i).toNatClampNeg = i := nI_clamp (by omega)
        have bi : (nI (43 + 3 * pm i)).toNatClampNeg = 43 + 3 * pm i := nI_clamp (by omega)
        obtain ⟨u1, u2, u3, _⟩ := gn_bl i4 hd
        obtain ⟨_, w1, w2⟩ := ab_eq i4 hd
        obtain ⟨A, A1, A2, A3⟩ := nI_ex (x := abV (σ (43 + 3 * pm i + 1)) (σ (43 + 3 * pm i + 2)) (ct i) b) w1
        obtain ⟨B, B1, B2, B3⟩ := nI_ex (x := blV (σ (43 + 3 * pm i + 1)) (ct i) b) (by show 0 ≤ BL _ _ _; omega)
        have eB : BL (σ (43 + 3 * pm i + 1)) (ct i) b = (B : Int) := B1.symm
        have hg : 0 < Nat.gcd B A := Nat.gcd_pos_of_pos_left _ (by omega)
        have hgl : Nat.gcd B A < 2 ^ 31 := Nat.lt_of_le_of_lt (Nat.gcd_le_left _ (by omega)) B2
        have ng := nI_nz (k := Nat.gcd B A) (by omega) hgl
        have s := scr_1 (μ := μ) (x := abV (σ (43 + 3 * pm i + 1)) (σ (43 + 3 * pm i + 2)) (ct i) b) (y := blV (σ (43 + 3 * pm i + 1)) (ct i) b)
        refine ⟨if c = 0 then nI A / nI (Nat.gcd B A) else nI B / nI (Nat.gcd B A), σ, _, RR_scr h s, fun Q q => hc _ _ ⟨fun z => absurd z (by decide), fun _ => hc2 _ _ ⟨fun z => absurd z (by decide), fun _ => hc3 _ _ ⟨fun _ => ?_, fun z => absurd z (by decide)⟩⟩⟩, fun Q q => hm _ _ ⟨fun z => absurd z (by decide), fun _ => hm2 _ _ ⟨fun z => absurd z (by decide), fun _ => hm3 _ _ ⟨fun _ => find_m hi i4 (hM i hi) hd ?_, fun z => absurd z (by decide)⟩⟩⟩⟩
        · rw [ci, i2, bi]
          refine ⟨ha, kcArm i1, above_c i4 i3 ⟨ha, ?_⟩⟩
          rw [i2, bi]
          refine ⟨kcArm i1, below_c i4 i3 ?_⟩
          rw [A3, B3]
          refine gd_loop 9 A B 0 (by omega) (by omega) A2 B2 hg _ ⟨fun z => ⟨ng, ?_⟩, fun z => ⟨ng, ?_⟩⟩
          · rw [if_neg z] at q; exact q
          · rw [if_pos z] at q; exact q
        · show wp_X10_common _ (abV (σ (43 + 3 * pm i + 1)) (σ (43 + 3 * pm i + 2)) (ct i) b) (blV (σ (43 + 3 * pm i + 1)) (ct i) b) _
          rw [A3, B3] at q ⊢
          refine cm_loop B A A2 B2 _ ⟨fun z => ⟨ng, ?_⟩, fun z => ⟨ng, ?_⟩⟩
          · rw [if_neg z] at q; exact q
          · rw [if_pos z] at q; exact q
      · exact ⟨-1, σ, μ, h, fun Q q => hc _ _ ⟨fun z => absurd z (by decide), fun _ => hc2 _ _ ⟨fun z => absurd z (by decide), fun _ => hc3 _ _ ⟨fun z => absurd rfl z, fun _ => q⟩⟩⟩, fun Q q => hm _ _ ⟨fun z => absurd z (by decide), fun _ => hm2 _ _ ⟨fun z => absurd z (by decide), fun _ => hm3 _ _ ⟨fun z => absurd rfl z, fun _ => q⟩⟩⟩⟩
    · exact ⟨-1, σ, μ, h, fun Q q => hc _ _ ⟨fun z => absurd z (by decide), fun _ => hc2 _ _ ⟨fun _ => q, fun z => absurd rfl z⟩⟩, fun Q q => hm _ _ ⟨fun z => absurd z (by decide), fun _ => hm2 _ _ ⟨fun _ => q, fun z => absurd rfl z⟩⟩⟩
  · exact ⟨-1, σ, μ, h, fun Q q => hc _ _ ⟨fun _ => q, fun z => absurd rfl z⟩, fun Q q => hm _ _ ⟨fun _ => q, fun z => absurd rfl z⟩⟩
set_option maxHeartbeats 1000000 in
theorem j_forget {σ μ : St} (h : RR σ μ) : JJ RR (fun Q => wp_X9_forget Q σ) (fun Q => wp_X10_forget Q μ) := by
  obtain ⟨pm, ct, h1, h2, h3, h4, h5, h6, h7, h8, h9, h10, h11, h12⟩ := h.2.2.2.2.2.2
  have p3 := h1 3 (by omega)
  have b3 : (nI (43 + 3 * pm 3)).toNatClampNeg = 43 + 3 * pm 3 := nI_clamp (by omega)
  have hne : ∀ i, i < 3 → pm i ≠ pm 3 := fun i hi z => by
    have := h2 i 3 (by omega) (by omega) z
    omega
  refine ⟨nI (ct 3), up2 σ (43 + 3 * pm 3) 2 0, up2 μ 0 11 0, RR_arm h (fun c hc => up2_ne (by omega)) (fun c c1 c2 _ _ => up2_ne (by omega)) (fun k k1 _ _ => upd_ne (f := μ 0) k1) ⟨pm, fun i => if i = 3 then 0 else ct i, h1, h2, fun i hi => ?_, ?_, fun i hi => ?_, fun i hi => ?_, fun i hi => ?_, rfl, fun i k hi hk => ?_, fun k hk => ?_, fun i k hi hk => ?_, fun i k hi hk => ?_⟩, fun Q q => ?_, fun Q q => ?_⟩
  · rw [up2_ne (by omega)]; exact h3 i hi
  · rw [up2_ne (by omega)]; exact h4
  · show 1 ≤ (if i = 3 then 0 else ct i)
    rw [if_neg (by omega)]; exact h5 i hi
  · show (if i = 3 then 0 else ct i) ≤ 6 ∧ up2 σ (43 + 3 * pm 3) 2 0 (43 + 3 * pm i) 2 = nI (if i = 3 then 0 else ct i)
    by_cases z : i = 3
    · rw [if_pos z, z, up2_eq, upd_eq]; exact ⟨by omega, rfl⟩
    · have := hne i (by omega)
      rw [if_neg z, up2_ne (by omega)]; exact h6 i hi
  · show up2 μ 0 11 0 7 i = nI (if i = 3 then 0 else ct i)
    rw [if_neg (by omega)]; exact h7 i hi
  · have hk : k < (if i = 3 then 0 else ct i) := hk
    rw [if_neg (by omega)] at hk
    rw [up2_ne (σ := σ) (i := 44 + 3 * pm i) (by omega), up2_ne (σ := σ) (i := 45 + 3 * pm i) (by omega)]
    exact h9 i k hi hk
  · have hk : k < (if 3 = 3 then 0 else ct 3) := hk
    rw [if_pos rfl] at hk
    omega
  · have hk : k < (if i = 3 then 0 else ct i) := hk
    by_cases z : i = 3
    · rw [if_pos z] at hk; omega
    · rw [if_neg z] at hk
      rw [up2_ne (σ := σ) (i := 44 + 3 * pm i) (by omega), up2_ne (σ := σ) (i := 45 + 3 * pm i) (by omega)]
      exact h11 i k hi hk
  · have hk : k + 1 < (if i = 3 then 0 else ct i) := hk
    by_cases z : i = 3
    · rw [if_pos z] at hk; omega
    · rw [if_neg z] at hk
      rw [up2_ne (σ := σ) (i := 44 + 3 * pm i) (by omega)]
      exact h12 i k hi hk
  · unfold wp_X9_forget
    rw [h4, b3]
    refine ⟨kcArm p3, fun x ex => ⟨kcArm p3, fun y ey => ?_⟩⟩
    subst ey; subst ex
    rw [(h6 3 (by omega)).2]
    exact q
  · intro x ex y ey
    subst ey; subst ex
    rw [h8]
    exact q
set_option maxHeartbeats 2000000 in
theorem j_knot {σ μ : St} (h : RR σ μ) (a b : Int32) : JJ RR (fun Q => wp_X9_knot Q a b σ) (fun Q => wp_X10_knot Q a b μ) := by
  rcases c_deg a with ⟨ha, hc, hm⟩ | ⟨hc, hm⟩
  · rcases c_btw b 0 1000 with ⟨r1, r2, hc2, hm2⟩ | ⟨hno, hc2, hm2⟩
    · obtain ⟨pm, ct, h1, h2, h3, h4, h5, h6, h7, h8, h9, h10, h11, h12⟩ := h.2.2.2.2.2.2
      have hr : 0 ≤ b.toInt ∧ b.toInt ≤ 1000 := rng r1 r2
      have hd := deg_of ha
      have p3 := h1 3 (by omega)
      have b3 : (nI (43 + 3 * pm 3)).toNatClampNeg = 43 + 3 * pm 3 := nI_clamp (by omega)
      have hne : ∀ i, i < 3 → pm i ≠ pm 3 := fun i hi z => by
        have := h2 i 3 (by omega) (by omega) z
        omega
      have hn := (h6 3 (by omega)).1
      have c3 := (h6 3 (by omega)).2
      have z0 : (0 : Int32).toInt = 0 := by decide
      have z1 : (-1 : Int32).toInt = -1 := by decide
      have e1 : 43 + 3 * pm 3 + 1 = 44 + 3 * pm 3 := by omega
      have e2 : 43 + 3 * pm 3 + 2 = 45 + 3 * pm 3 := by omega
      -- how the two sides come to the question whether there is room
      have C : ∀ Q : Int32 → St → Prop, (((σ (43 + 3 * pm 3) 2) < (6 : Int32) → (wp_X4_add (fun σ15 => kcL.getD (σ15 41 1).toNatClampNeg 999 = 4 ∧ (Q (σ15 ((σ15 41 1).toNatClampNeg) 2) σ15)) (43 + 3 * pm 3) a b σ)) ∧ (¬ (σ (43 + 3 * pm 3) 2) < (6 : Int32) → (Q (-2 : Int32) σ))) → (ct 3 = 0 ∨ (σ (44 + 3 * pm 3) (ct 3 - 1)).toInt < a.toInt) → wp_X9_knot Q a b σ := by
        intro Q q hl
        refine hc _ _ ⟨fun z => absurd z (by decide), fun _ => hc2 _ _ ⟨fun z => absurd z (by decide), fun _ => ?_⟩⟩
        rw [h4, b3]
        refine ⟨kcArm p3, ?_⟩
        unfold wp_X4_latest
        rw [c3, e1]
        have go : ∀ r8 : Int32, r8 < a → ((r8 < a → (kcL.getD (σ 41 1).toNatClampNeg 999 = 4 ∧ (((σ ((σ 41 1).toNatClampNeg) 2) < (6 : Int32) → (kcL.getD (σ 41 1).toNatClampNeg 999 = 4 ∧ (wp_X4_add (fun σ15 => kcL.getD (σ15 41 1).toNatClampNeg 999 = 4 ∧ (Q (σ15 ((σ15 41 1).toNatClampNeg) 2) σ15)) ((σ 41 1).toNatClampNeg) a b σ))) ∧ (¬ (σ ((σ 41 1).toNatClampNeg) 2) < (6 : Int32) → (Q (-2 : Int32) σ))))) ∧ (¬ r8 < a → (Q (-1 : Int32) σ))) := by
          intro r8 hr8
          rw [h4, b3]
          exact ⟨fun _ => ⟨kcArm p3, fun z => ⟨kcArm p3, q.1 z⟩, q.2⟩, fun z => absurd hr8 z⟩
        refine ⟨fun z => ⟨?_, ?_⟩, fun z => go (-1) ?_⟩
        · have nz : ct 3 ≠ 0 := fun y => z (by rw [y]; rfl)
          obtain ⟨m, em⟩ : ∃ m, ct 3 = m + 1 := ⟨ct 3 - 1, by omega⟩
          rw [em, show nI (m + 1) - 1 = nI m from nI_pred m]
          exact vp_in_nI (by omega) (by decide)
        · have nz : ct 3 ≠ 0 := fun y => z (by rw [y]; rfl)
          obtain ⟨m, em⟩ : ∃ m, ct 3 = m + 1 := ⟨ct 3 - 1, by omega⟩
          have hl2 := hl.resolve_left nz
          rw [em] at hl2
          rw [em, show nI (m + 1) - 1 = nI m from nI_pred m, nI_clamp (by omega)]
          exact go _ (by rw [Int32.lt_iff_toInt_lt]; exact hl2)
        · unfold deg at hd
          rw [Int32.lt_iff_toInt_lt, z1]; omega
      have M : ∀ Q : Int32 → St → Prop, wb_X10_knot_42 Q a b μ → (ct 3 = 0 ∨ (σ (44 + 3 * pm 3) (ct 3 - 1)).toInt < a.toInt) → wp_X10_knot Q a b μ := by
        intro Q q hl
        refine hm _ _ ⟨fun z => absurd z (by decide), fun _ => hm2 _ _ ⟨fun z => absurd z (by decide), fun _ => ?_⟩⟩
        rw [h8]
        refine ⟨fun _ => q, fun z => ?_⟩
        have nz : ct 3 ≠ 0 := fun y => z (by rw [y]; decide)
        obtain ⟨m, em⟩ : ∃ m, ct 3 = m + 1 := ⟨ct 3 - 1, by omega⟩
        have hl2 := hl.resolve_left nz
        rw [em] at hl2
        rw [em, show nI (m + 1) - 1 = nI m from nI_pred m, nI_clamp (by omega), ← (h10 m (by omega)).1]
        exact ⟨vp_in_nI (by omega) (by decide), fun _ => q, fun z => absurd (by rw [Int32.lt_iff_toInt_lt]; exact hl2) z⟩
      by_cases hl : ct 3 = 0 ∨ (σ (44 + 3 * pm 3) (ct 3 - 1)).toInt < a.toInt
      · by_cases h6' : ct 3 = 6
        · refine ⟨-2, σ, μ, h, fun Q q => C Q ⟨fun z => ?_, fun _ => q⟩ hl, fun Q q => M Q ⟨fun z => ?_, fun _ => q⟩ hl⟩
          · rw [c3, h6'] at z; exact absurd z (by decide)
          · rw [h8, h6'] at z; exact absurd rfl z
        · have v6 : vp_in (nI (ct 3)) 6 := vp_in_nI (by omega) (by decide)
          have cc : (nI (ct 3)).toNatClampNeg = ct 3 := nI_clamp (by omega)
          have t6 : (6 : Int32).toInt = 6 := by decide
          have l6 : nI (ct 3) < (6 : Int32) := by rw [Int32.lt_iff_toInt_lt, nI_toInt (by omega), t6]; omega
          have n6 : ¬ nI (ct 3) = (6 : Int32) := fun z => by
            have := congrArg Int32.toInt z
            rw [nI_toInt (by omega), t6] at this
            omega
          -- the new states
          have S : ∀ c, c ≠ 43 + 3 * pm 3 → c ≠ 44 + 3 * pm 3 → c ≠ 45 + 3 * pm 3 → up2 (up2 (up2 σ (44 + 3 * pm 3) (ct 3) a) (45 + 3 * pm 3) (ct 3) b) (43 + 3 * pm 3) 2 (nI (ct 3 + 1)) c = σ c := fun c y1 y2 y3 => by rw [up2_ne y1, up2_ne y3, up2_ne y2]
          have S1 : up2 (up2 (up2 σ (44 + 3 * pm 3) (ct 3) a) (45 + 3 * pm 3) (ct 3) b) (43 + 3 * pm 3) 2 (nI (ct 3 + 1)) (43 + 3 * pm 3) 2 = nI (ct 3 + 1) := by rw [up2_eq, upd_eq]
          have S2 : up2 (up2 (up2 σ (44 + 3 * pm 3) (ct 3) a) (45 + 3 * pm 3) (ct 3) b) (43 + 3 * pm 3) 2 (nI (ct 3 + 1)) (44 + 3 * pm 3) = upd (σ (44 + 3 * pm 3)) (ct 3) a := by rw [up2_ne (by omega), up2_ne (by omega), up2_eq]
          have S3 : up2 (up2 (up2 σ (44 + 3 * pm 3) (ct 3) a) (45 + 3 * pm 3) (ct 3) b) (43 + 3 * pm 3) 2 (nI (ct 3 + 1)) (45 + 3 * pm 3) = upd (σ (45 + 3 * pm 3)) (ct 3) b := by rw [up2_ne (by omega), up2_eq, up2_ne (by omega)]
          refine ⟨nI (ct 3 + 1), up2 (up2 (up2 σ (44 + 3 * pm 3) (ct 3) a) (45 + 3 * pm 3) (ct 3) b) (43 + 3 * pm 3) 2 (nI (ct 3 + 1)), up2 (up2 (up2 μ 10 (ct 3) a) 11 (ct 3) b) 0 11 (nI (ct 3 + 1)), RR_arm h (fun c hc => S c (by omega) (by omega) (by omega)) (fun c c1 c2 _ _ => by rw [up2_ne (by omega), up2_ne (by omega), up2_ne (by omega)]) (fun k k1 _ _ => upd_ne (f := μ 0) k1) ⟨pm, fun i => if i = 3 then ct 3 + 1 else ct i, h1, h2, fun i hi => ?_, ?_, fun i hi => ?_, fun i hi => ?_, fun i hi => ?_, ?_, fun i k hi hk => ?_, fun k hk => ?_, fun i k hi hk => ?_, fun i k hi hk => ?_⟩, fun Q q => C Q ⟨fun _ => ?_, fun z => absurd (by rw [c3]; exact l6) z⟩ hl, fun Q q => M Q ⟨fun _ => ?_, fun z => absurd (h8.symm.trans z) n6⟩ hl⟩
          · rw [S 42 (by omega) (by omega) (by omega)]; exact h3 i hi
          · rw [S 41 (by omega) (by omega) (by omega)]; exact h4
          · show 1 ≤ (if i = 3 then ct 3 + 1 else ct i)
            rw [if_neg (by omega)]; exact h5 i hi
          · show (if i = 3 then ct 3 + 1 else ct i) ≤ 6 ∧ _ = nI (if i = 3 then ct 3 + 1 else ct i)
            by_cases z : i = 3
            · rw [if_pos z, z, S1]; exact ⟨by omega, rfl⟩
            · have := hne i (by omega)
              rw [if_neg z, S _ (by omega) (by omega) (by omega)]; exact h6 i hi
          · show μ 7 i = nI (if i = 3 then ct 3 + 1 else ct i)
            rw [if_neg (by omega)]; exact h7 i hi
          · show nI (ct 3 + 1) = nI (if 3 = 3 then ct 3 + 1 else ct 3)
            rw [if_pos rfl]
          · have hk : k < (if i = 3 then ct 3 + 1 else ct i) := hk
            rw [if_neg (by omega)] at hk
            have := hne i hi
            rw [S (44 + 3 * pm i) (by omega) (by omega) (by omega), S (45 + 3 * pm i) (by omega) (by omega) (by omega)]
            exact h9 i k hi hk
          · have hk : k < (if 3 = 3 then ct 3 + 1 else ct 3) := hk
            rw [if_pos rfl] at hk
            rw [S2, S3]
            show upd (σ (44 + 3 * pm 3)) (ct 3) a k = upd (μ 10) (ct 3) a k ∧ upd (σ (45 + 3 * pm 3)) (ct 3) b k = upd (μ 11) (ct 3) b k
            by_cases z : k = ct 3
            · rw [z, upd_eq, upd_eq, upd_eq, upd_eq]; exact ⟨rfl, rfl⟩
            · rw [upd_ne z, upd_ne z, upd_ne z, upd_ne z]; exact h10 k (by omega)
          · have hk : k < (if i = 3 then ct 3 + 1 else ct i) := hk
            by_cases z : i = 3
            · rw [if_pos z] at hk
              rw [z, S2, S3]
              by_cases y : k = ct 3
              · rw [y, upd_eq, upd_eq]; exact ⟨hd, hr⟩
              · rw [upd_ne y, upd_ne y]; exact h11 3 k (by omega) (by omega)
            · rw [if_neg z] at hk
              have := hne i (by omega)
              rw [S (44 + 3 * pm i) (by omega) (by omega) (by omega), S (45 + 3 * pm i) (by omega) (by omega) (by omega)]
              exact h11 i k hi hk
          · have hk : k + 1 < (if i = 3 then ct 3 + 1 else ct i) := hk
            by_cases z : i = 3
            · rw [if_pos z] at hk
              rw [z, S2]
              by_cases y : k + 1 = ct 3
              · have hl2 := hl.resolve_left (by omega)
                rw [← y] at hl2 ⊢
                rw [upd_eq, upd_ne (by omega)]
                exact hl2
              · rw [upd_ne y, upd_ne (by omega)]; exact h12 3 k (by omega) (by omega)
            · rw [if_neg z] at hk
              have := hne i (by omega)
              rw [S (44 + 3 * pm i) (by omega) (by omega) (by omega)]
              exact h12 i k hi hk
          · unfold wp_X4_add
            rw [c3, e1, e2, cc]
            refine ⟨v6, fun x ex => ?_⟩
            subst ex
            have y1 : up2 σ (44 + 3 * pm 3) (ct 3) a (43 + 3 * pm 3) 2 = nI (ct 3) := by rw [up2_ne (by omega)]; exact c3
            rw [y1, cc]
            refine ⟨v6, fun x ex y ey => ?_⟩
            subst ex
            have y2 : up2 (up2 σ (44 + 3 * pm 3) (ct 3) a) (45 + 3 * pm 3) (ct 3) b (43 + 3 * pm 3) 2 = nI (ct 3) := by rw [up2_ne (by omega)]; exact y1
            rw [y2, nI_1] at ey
            subst ey
            rw [S 41 (by omega) (by omega) (by omega), h4, b3, S1]
            exact ⟨kcArm p3, q⟩
          · rw [h8, cc]
            refine ⟨v6, fun x ex => ?_⟩
            subst ex
            have y1 : up2 μ 10 (ct 3) a 0 11 = nI (ct 3) := h8
            rw [y1, cc]
            refine ⟨v6, fun x ex y ey => ?_⟩
            subst ex
            have y2 : up2 (up2 μ 10 (ct 3) a) 11 (ct 3) b 0 11 = nI (ct 3) := h8
            rw [y2, nI_1] at ey
            subst ey
            exact q
      · have hl' : ct 3 ≠ 0 ∧ ¬ (σ (44 + 3 * pm 3) (ct 3 - 1)).toInt < a.toInt := ⟨fun z => hl (Or.inl z), fun z => hl (Or.inr z)⟩
        obtain ⟨m, em⟩ : ∃ m, ct 3 = m + 1 := ⟨ct 3 - 1, by omega⟩
        have hl2 := hl'.2
        rw [em] at hl2
        have nlt : ¬ σ (44 + 3 * pm 3) m < a := by rw [Int32.lt_iff_toInt_lt]; exact hl2
        have nz : ¬ nI (m + 1) = 0 := nI_nz (by omega) (by omega)
        have nz2 : ¬ nI (m + 1) ≤ 0 := by
          rw [Int32.le_iff_toInt_le, nI_toInt (by omega), z0]; omega
        have vm : vp_in (nI m) 6 := vp_in_nI (by omega) (by decide)
        have cm : (nI m).toNatClampNeg = m := nI_clamp (by omega)
        refine ⟨-1, σ, μ, h, fun Q q => hc _ _ ⟨fun z => absurd z (by decide), fun _ => hc2 _ _ ⟨fun z => absurd z (by decide), fun _ => ?_⟩⟩, fun Q q => hm _ _ ⟨fun z => absurd z (by decide), fun _ => hm2 _ _ ⟨fun z => absurd z (by decide), fun _ => ?_⟩⟩⟩
        · rw [h4, b3]
          refine ⟨kcArm p3, ?_⟩
          unfold wp_X4_latest
          rw [c3, e1, em, show nI (m + 1) - 1 = nI m from nI_pred m, cm]
          exact ⟨fun _ => ⟨vm, fun z => absurd z nlt, fun _ => q⟩, fun z => absurd z nz⟩
        · rw [h8, em, show nI (m + 1) - 1 = nI m from nI_pred m, cm, ← (h10 m (by omega)).1]
          exact ⟨fun z => absurd z nz2, fun _ => ⟨vm, fun z => absurd z nlt, fun _ => q⟩⟩
    · exact ⟨-1, σ, μ, h, fun Q q => hc _ _ ⟨fun z => absurd z (by decide), fun _ => hc2 _ _ ⟨fun _ => q, fun z => absurd rfl z⟩⟩, fun Q q => hm _ _ ⟨fun z => absurd z (by decide), fun _ => hm2 _ _ ⟨fun _ => q, fun z => absurd rfl z⟩⟩⟩
  · exact ⟨-1, σ, μ, h, fun Q q => hc _ _ ⟨fun _ => q, fun z => absurd rfl z⟩, fun Q q => hm _ _ ⟨fun _ => q, fun z => absurd rfl z⟩⟩
