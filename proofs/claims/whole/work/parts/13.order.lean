/-! stop and start -/
theorem php : ∀ (n : Nat) (f : Nat → Nat), (∀ i, i < n + 1 → f i < n) → (∀ i j, i < n + 1 → j < n + 1 → f i = f j → i = j) → False := by
  intro n
  induction n with
  | zero =>
    intro f h _
    exact absurd (h 0 (by omega)) (by omega)
  | succ n ih =>
    intro f h hi
    refine ih (fun i => if f i = n then f (n + 1) else f i) (fun i hl => ?_) (fun i j hl hj he => ?_)
    · have h1 := h i (by omega)
      have h2 := h (n + 1) (by omega)
      by_cases e : f i = n
      · rw [if_pos e]
        rcases Nat.lt_or_ge (f (n + 1)) n with z | z
        · exact z
        · have := hi i (n + 1) (by omega) (by omega) (by omega)
          omega
      · rw [if_neg e]
        omega
    · by_cases e1 : f i = n
      · by_cases e2 : f j = n
        · exact hi i j (by omega) (by omega) (e1.trans e2.symm)
        · rw [if_pos e1, if_neg e2] at he
          have := hi (n + 1) j (by omega) (by omega) he
          omega
      · by_cases e2 : f j = n
        · rw [if_neg e1, if_pos e2] at he
          have := hi i (n + 1) (by omega) (by omega) he
          omega
        · rw [if_neg e1, if_neg e2] at he
          exact hi i j (by omega) (by omega) he
theorem vp_clamp_inj {x y : Int32} {n : Nat} (hx : vp_in x n) (hy : vp_in y n) (h : x.toNatClampNeg = y.toNatClampNeg) : x = y := by
  rw [vp_in_iff] at hx hy
  apply Int32.toInt_inj.mp
  have h1 : x.toNatClampNeg = x.toInt.toNat := rfl
  have h2 : y.toNatClampNeg = y.toInt.toNat := rfl
  omega
/-- a section that doesn't run: there is a place for it -/
theorem ord_room {f : Nat → Int32} {n : Nat} (hn : n ≤ 6) (h1 : ∀ j, j < n → vp_in (f j) 6) (h2 : ∀ i j, i < n → j < n → f i = f j → i = j) {a : Int32} (ha : vp_in a 6) (h3 : ∀ j, j < n → f j ≠ a) : n < 6 := by
  rcases Nat.lt_or_ge n 6 with z | z
  · exact z
  · exfalso
    have hn6 : n = 6 := by omega
    subst hn6
    refine php 6 (fun i => if i < 6 then (f i).toNatClampNeg else a.toNatClampNeg) (fun i hi => ?_) (fun i j hi hj he => ?_)
    · by_cases e : i < 6
      · rw [if_pos e]; exact vp_lt (h1 i e)
      · rw [if_neg e]; exact vp_lt ha
    · by_cases e1 : i < 6
      · by_cases e2 : j < 6
        · rw [if_pos e1, if_pos e2] at he
          exact h2 i j e1 e2 (vp_clamp_inj (h1 i e1) (h1 j e2) he)
        · rw [if_pos e1, if_neg e2] at he
          exact absurd (vp_clamp_inj (h1 i e1) ha he) (h3 i e1)
      · by_cases e2 : j < 6
        · rw [if_neg e1, if_pos e2] at he
          exact absurd (vp_clamp_inj ha (h1 j e2) he).symm (h3 j e2)
        · omega
set_option maxHeartbeats 1000000 in
theorem j_start {σ μ : St} (h : RR σ μ) (a : Int32) : JJ RR (fun Q => wp_X9_start Q a σ) (fun Q => wp_X10_start Q a μ) := by
  obtain ⟨n, t, hn, o1, o2, o3, o4, o5, o6, o7, o8⟩ := h.2.2.2.1
  rcases c_sec a with ⟨ha, hc, hm⟩ | ⟨hc, hm⟩
  · obtain ⟨r, hr, hc3, hm3⟩ := c_fnd hn o1 o2 o6 a
    rcases hr with ⟨rfl, hno⟩ | ⟨k, hk, rfl, _⟩
    · have hn6 : n < 6 := ord_room hn o7 o8 ha hno
      have hin : vp_in (σ 55 2) 6 := by rw [o1]; exact vp_in_nI hn6 (by decide)
      have hin2 : vp_in (μ 0 14) 6 := by rw [o2]; exact vp_in_nI hn6 (by decide)
      have c1 : (σ 55 2).toNatClampNeg = n := by rw [o1]; exact nI_clamp (by omega)
      have c2 : (μ 0 14).toNatClampNeg = n := by rw [o2]; exact nI_clamp (by omega)
      have e1 : σ 55 2 + 1 = nI (n + 1) := by rw [o1]; exact nI_1 n
      have e2 : μ 0 14 + 1 = nI (n + 1) := by rw [o2]; exact nI_1 n
      refine ⟨nI (n + 1), up2 (up2 σ 56 (σ 55 2).toNatClampNeg a) 55 2 (σ 55 2 + 1), up2 (up2 μ 12 (μ 0 14).toNatClampNeg a) 0 14 (μ 0 14 + 1), ⟨rG_c (σ := σ) (μ := μ) rfl rfl rfl rfl rfl rfl h.1, rS_c (σ := σ) (μ := μ) rfl rfl rfl rfl rfl rfl rfl rfl rfl rfl rfl rfl rfl rfl h.2.1, rM_c (σ := σ) (μ := μ) rfl rfl rfl rfl rfl rfl rfl rfl rfl rfl rfl rfl h.2.2.1, ⟨n + 1, t, by omega, e1, e2, o3, o4, by omega, (fun j hj => by
        show upd (σ 56) (σ 55 2).toNatClampNeg a j = upd (μ 12) (μ 0 14).toNatClampNeg a j
        rw [c1, c2]
        exact b_upd o6 j hj), (fun j hj => by
        show vp_in (upd (σ 56) (σ 55 2).toNatClampNeg a j) 6
        rw [c1]
        by_cases z : j = n
        · rw [z, upd_eq]; exact ha
        · rw [upd_ne z]; exact o7 j (by omega)), (fun i j hi hj he => by
        have he : upd (σ 56) (σ 55 2).toNatClampNeg a i = upd (σ 56) (σ 55 2).toNatClampNeg a j := he
        rw [c1] at he
        by_cases z : i = n
        · by_cases y : j = n
          · omega
          · rw [z, upd_eq, upd_ne y] at he
            exact absurd he.symm (hno j (by omega))
        · by_cases y : j = n
          · rw [y, upd_eq, upd_ne z] at he
            exact absurd he (hno i (by omega))
          · rw [upd_ne z, upd_ne y] at he
            exact o8 i j (by omega) (by omega) he)⟩, rB_c (σ := σ) (μ := μ) rfl (fun i h1 h2 => (by first | rfl | (simp (disch := omega) only [up2_ne]))) rfl (fun i h1 h2 => (by first | rfl | (simp (disch := omega) only [up2_ne]))) h.2.2.2.2.1, rD_c (σ := σ) (μ := μ) (fun i h1 h2 _ _ _ => (by first | rfl | (simp (disch := omega) only [up2_ne]))) rfl rfl (fun i h1 h2 => (by first | rfl | (simp (disch := omega) only [up2_ne]))) h.2.2.2.2.2.1, rA_c (σ := σ) (μ := μ) (fun i h1 h2 => (by first | rfl | (simp (disch := omega) only [up2_ne]))) rfl (fun i h1 h2 => (by first | rfl | (simp (disch := omega) only [up2_ne]))) h.2.2.2.2.2.2⟩, fun Q q => ?_, fun Q q => ?_⟩
      · rw [← e1] at q
        unfold wp_X9_start wp_X6_join
        repeat' first | exact q | assumption | with_reducible refine And.intro ?_ ?_ | (intro z; contradiction) | (intro z; exact absurd z (by decide)) | (intro z; exact absurd rfl z) | (intro x e; subst e) | intro _ | refine hc _ _ ?_ | refine hc3 _ ?_
      · rw [← e2] at q
        unfold wp_X10_start
        repeat' first | exact q | assumption | with_reducible refine And.intro ?_ ?_ | (intro z; contradiction) | (intro z; exact absurd z (by decide)) | (intro z; exact absurd rfl z) | (intro x e; subst e) | intro _ | refine hm _ _ ?_ | refine hm3 _ ?_
    · have hn1 := nI_nm1 (k := k) (by omega)
      have hn0 := nI_n0 (k := k) (by omega)
      refine ⟨-3, σ, μ, h, fun Q q => ?_, fun Q q => ?_⟩
      · unfold wp_X9_start
        repeat' first | exact q | assumption | with_reducible refine And.intro ?_ ?_ | (intro z; contradiction) | (intro z; exact absurd z (by decide)) | (intro z; exact absurd rfl z) | (intro x e; subst e) | intro _ | refine hc _ _ ?_ | refine hc3 _ ?_
      · unfold wp_X10_start
        repeat' first | exact q | assumption | with_reducible refine And.intro ?_ ?_ | (intro z; contradiction) | (intro z; exact absurd z (by decide)) | (intro z; exact absurd rfl z) | (intro x e; subst e) | intro _ | refine hm _ _ ?_ | refine hm3 _ ?_
  · skip
    refine ⟨-1, σ, μ, h, fun Q q => ?_, fun Q q => ?_⟩
    · unfold wp_X9_start
      repeat' first | exact q | assumption | with_reducible refine And.intro ?_ ?_ | (intro z; contradiction) | (intro z; exact absurd z (by decide)) | (intro z; exact absurd rfl z) | (intro x e; subst e) | intro _ | refine hc _ _ ?_
    · unfold wp_X10_start
      repeat' first | exact q | assumption | with_reducible refine And.intro ?_ ?_ | (intro z; contradiction) | (intro z; exact absurd z (by decide)) | (intro z; exact absurd rfl z) | (intro x e; subst e) | intro _ | refine hm _ _ ?_
set_option maxHeartbeats 1000000 in
theorem leave_loop (v : Int32) {n : Nat} (hn : n ≤ 6) : ∀ (m i : Nat) (σ μ : St), i + m + 1 = n → σ 55 2 = nI n → μ 0 14 = nI (n - 1) → (∀ j, j < 6 → σ 56 j = μ 12 j) →
    ∃ σ' μ' : St, (∀ c, c ≠ 56 → σ' c = σ c) ∧ (∀ c, c ≠ 12 → μ' c = μ c) ∧ (∀ j, j < 6 → σ' 56 j = μ' 12 j) ∧ (∀ j, j < n → σ' 56 j = if i ≤ j ∧ j + 1 < n then σ 56 (j + 1) else σ 56 j) ∧
      (∀ Q : St → Prop, (∀ σ2 : St, σ2 = up2 σ' 55 2 ((σ' 55 2) - (1 : Int32)) → ((σ2 55 1) ≤ v → (wb_X6_leave_60 Q σ2)) ∧ (¬ (σ2 55 1) ≤ v → (∀ σ6 : St, σ6 = up2 σ2 55 1 ((σ2 55 1) - (1 : Int32)) → wb_X6_leave_60 Q σ6))) → ∃ f, wl_X6_leave_2 Q v f σ (nI i)) ∧
      (∀ Q : Int32 → St → Prop, ((μ' 0 16) ≤ v → (wb_X10_stop_84 Q (μ' 0 16) μ')) ∧ (¬ (μ' 0 16) ≤ v → (wb_X10_stop_84 Q ((μ' 0 16) - (1 : Int32)) μ')) → ∃ f, wl_X10_stop_34 Q v f μ (nI i)) := by
  intro m
  induction m with
  | zero =>
    intro i σ μ hi h1 h2 h3
    refine ⟨σ, μ, fun _ _ => rfl, fun _ _ => rfl, h3, fun j hj => ?_, fun Q q => ⟨1, ⟨fun _ => q, fun z => absurd ?_ z⟩⟩, fun Q q => ⟨1, ⟨fun _ => q, fun z => absurd ?_ z⟩⟩⟩
    · rw [if_neg (by omega)]
    · rw [h1, nI_1]; exact nI_le (by omega) (by omega)
    · rw [h2]; exact nI_le (by omega) (by omega)
  | succ m ih =>
    intro i σ μ hi h1 h2 h3
    have hC : ¬ (σ 55 2) ≤ nI i + 1 := by rw [h1, nI_1]; exact nI_ge (by omega) (by omega)
    have hM : ¬ (μ 0 14) ≤ nI i := by rw [h2]; exact nI_ge (by omega) (by omega)
    have ci : (nI i).toNatClampNeg = i := nI_clamp (by omega)
    have cj : (nI i + 1).toNatClampNeg = i + 1 := by rw [nI_1]; exact nI_clamp (by omega)
    have v0 : vp_in (nI i) 6 := vp_in_nI (by omega) (by decide)
    have v1 : vp_in (nI i + 1) 6 := by rw [nI_1]; exact vp_in_nI (by omega) (by decide)
    obtain ⟨σ', μ', g1, g2, g3, g4, g5, g6⟩ := ih (i + 1) (up2 σ 56 i (σ 56 (i + 1))) (up2 μ 12 i (μ 12 (i + 1))) (by omega) h1 h2 (fun j hj => by
      rw [up2_eq, up2_eq, h3 (i + 1) (by omega)]
      exact b_upd h3 j hj)
    refine ⟨σ', μ', fun c hc => (g1 c hc).trans (up2_ne hc), fun c hc => (g2 c hc).trans (up2_ne hc), g3, fun j hj => ?_, fun Q q => ?_, fun Q q => ?_⟩
    · rw [g4 j hj, up2_eq]
      by_cases z : i + 1 ≤ j ∧ j + 1 < n
      · rw [if_pos z, if_pos (by omega), upd_ne (by omega)]
      · rw [if_neg z]
        by_cases y : j = i
        · rw [y, upd_eq, if_pos (by omega)]
        · rw [upd_ne y, if_neg (by omega)]
    · obtain ⟨f, hf⟩ := g5 Q q
      refine ⟨f + 1, ⟨fun z => absurd z hC, fun _ => ⟨v1, v0, fun x e y ey => ?_⟩⟩⟩
      subst e; subst ey
      rw [ci, cj, nI_1]
      exact hf
    · obtain ⟨f, hf⟩ := g6 Q q
      refine ⟨f + 1, ⟨fun z => absurd z hM, fun _ => ⟨v1, v0, fun x e y ey => ?_⟩⟩⟩
      subst e; subst ey
      rw [ci, cj, nI_1]
      exact hf
set_option maxHeartbeats 2000000 in
theorem j_stop {σ μ : St} (h : RR σ μ) (a : Int32) : JJ RR (fun Q => wp_X9_stop Q a σ) (fun Q => wp_X10_stop Q a μ) := by
  obtain ⟨n, t, hn, o1, o2, o3, o4, o5, o6, o7, o8⟩ := h.2.2.2.1
  rcases c_sec a with ⟨ha, hc, hm⟩ | ⟨hc, hm⟩
  · obtain ⟨r, hr, hc3, hm3⟩ := c_fnd hn o1 o2 o6 a
    rcases hr with ⟨rfl, hno⟩ | ⟨k, hk, rfl, _⟩
    · skip
      refine ⟨-3, σ, μ, h, fun Q q => ?_, fun Q q => ?_⟩
      · unfold wp_X9_stop
        repeat' first | exact q | assumption | with_reducible refine And.intro ?_ ?_ | (intro z; contradiction) | (intro z; exact absurd z (by decide)) | (intro z; exact absurd rfl z) | (intro x e; subst e) | intro _ | refine hc _ _ ?_ | refine hc3 _ ?_
      · unfold wp_X10_stop
        repeat' first | exact q | assumption | with_reducible refine And.intro ?_ ?_ | (intro z; contradiction) | (intro z; exact absurd z (by decide)) | (intro z; exact absurd rfl z) | (intro x e; subst e) | intro _ | refine hm _ _ ?_ | refine hm3 _ ?_
    · have hn1 := nI_nm1 (k := k) (by omega)
      have hk0 : (0 : Int32) ≤ nI k := nI_pos' (by omega)
      have ht : t < n := by
        rcases o5 with z | ⟨z, _⟩
        · exact z
        · omega
      have e14 : (μ 0 14) - 1 = nI (n - 1) := by
        rw [o2]
        obtain ⟨m, rfl⟩ : ∃ m, n = m + 1 := ⟨n - 1, by omega⟩
        exact nI_pred m
      obtain ⟨σ', μ', g1, g2, g3, g4, g5, g6⟩ := leave_loop (nI k) hn (n - 1 - k) k σ (up2 μ 0 14 ((μ 0 14) - 1)) (by omega) o1 e14 o6
      have s55 : σ' 55 = σ 55 := g1 55 (by omega)
      have m0 : μ' 0 = upd (μ 0) 14 ((μ 0 14) - 1) := (g2 0 (by omega)).trans up2_eq
      have m16 : μ' 0 16 = nI t := by rw [m0, upd_ne (by omega)]; exact o4
      have m14 : μ' 0 14 = nI (n - 1) := by rw [m0, upd_eq]; exact e14
      have e2 : (σ' 55 2) - 1 = nI (n - 1) := by
        rw [s55, o1]
        obtain ⟨m, rfl⟩ : ∃ m, n = m + 1 := ⟨n - 1, by omega⟩
        exact nI_pred m
      -- the rows behind it
      have q7 : ∀ j, j < n - 1 → vp_in (σ' 56 j) 6 := fun j hj => by
        rw [g4 j (by omega)]
        by_cases z : k ≤ j ∧ j + 1 < n
        · rw [if_pos z]; exact o7 _ (by omega)
        · rw [if_neg z]; exact o7 _ (by omega)
      have q8 : ∀ i j, i < n - 1 → j < n - 1 → σ' 56 i = σ' 56 j → i = j := fun i j hi hj he => by
        rw [g4 i (by omega), g4 j (by omega)] at he
        by_cases z : k ≤ i ∧ i + 1 < n
        · by_cases y : k ≤ j ∧ j + 1 < n
          · rw [if_pos z, if_pos y] at he
            have := o8 _ _ (by omega) (by omega) he
            omega
          · rw [if_pos z, if_neg y] at he
            have := o8 _ _ (by omega) (by omega) he
            omega
        · by_cases y : k ≤ j ∧ j + 1 < n
          · rw [if_neg z, if_pos y] at he
            have := o8 _ _ (by omega) (by omega) he
            omega
          · rw [if_neg z, if_neg y] at he
            exact o8 _ _ (by omega) (by omega) he
      -- any end with the count n - 1 and the turn u
      have fin : ∀ (σ3 μ3 : St) (u : Nat), σ3 55 2 = nI (n - 1) → σ3 55 1 = nI u → μ3 0 14 = nI (n - 1) → μ3 0 16 = nI u → (u < n - 1 ∨ (n - 1 = 0 ∧ u = 0)) → (∀ c, c ≠ 55 → σ3 c = σ' c) → (∀ c, c ≠ 0 → μ3 c = μ' c) → (∀ c, c ≠ 14 → c ≠ 16 → μ3 0 c = μ 0 c) → RR σ3 μ3 := by
        intro σ3 μ3 u a1 a2 a3 a4 a5 a6 a7 a8
        have b6 : ∀ c, c ≠ 55 → c ≠ 56 → σ3 c = σ c := fun c z y => (a6 c z).trans (g1 c y)
        have b7 : ∀ c, c ≠ 0 → c ≠ 12 → μ3 c = μ c := fun c z y => (a7 c z).trans ((g2 c y).trans (up2_ne z))
        have b0 : σ3 0 = σ 0 := b6 0 (by omega) (by omega)
        refine ⟨rG_c (b6 _ (by omega) (by omega)) (b6 _ (by omega) (by omega)) (b6 _ (by omega) (by omega)) (b7 _ (by omega) (by omega)) (b7 _ (by omega) (by omega)) (b7 _ (by omega) (by omega)) h.1, rS_c (b6 _ (by omega) (by omega)) (by rw [b0]) (by rw [b0]) (by rw [b0]) (by rw [b0]) (by rw [b0]) (by rw [b0]) (b7 _ (by omega) (by omega)) (a8 _ (by omega) (by omega)) (a8 _ (by omega) (by omega)) (a8 _ (by omega) (by omega)) (a8 _ (by omega) (by omega)) (a8 _ (by omega) (by omega)) (a8 _ (by omega) (by omega)) h.2.1, rM_c (b6 _ (by omega) (by omega)) (b6 _ (by omega) (by omega)) (b6 _ (by omega) (by omega)) (b6 _ (by omega) (by omega)) (b6 _ (by omega) (by omega)) (b6 _ (by omega) (by omega)) (b7 _ (by omega) (by omega)) (b7 _ (by omega) (by omega)) (b7 _ (by omega) (by omega)) (b7 _ (by omega) (by omega)) (b7 _ (by omega) (by omega)) (b7 _ (by omega) (by omega)) h.2.2.1, ⟨n - 1, u, by omega, a1, a3, a2, a4, a5, ?_, ?_, ?_⟩, rB_c (b6 _ (by omega) (by omega)) (fun i _ _ => b6 _ (by omega) (by omega)) (a8 _ (by omega) (by omega)) (fun i _ _ => b7 _ (by omega) (by omega)) h.2.2.2.2.1, rD_c (fun i _ _ _ _ _ => b6 _ (by omega) (by omega)) (a8 _ (by omega) (by omega)) (a8 _ (by omega) (by omega)) (fun i _ _ => b7 _ (by omega) (by omega)) h.2.2.2.2.2.1, rA_c (fun i _ _ => b6 _ (by omega) (by omega)) (a8 _ (by omega) (by omega)) (fun i _ _ => b7 _ (by omega) (by omega)) h.2.2.2.2.2.2⟩
        · intro j hj
          rw [a6 56 (by omega), a7 12 (by omega)]
          exact g3 j hj
        · rw [a6 56 (by omega)]; exact q7
        · rw [a6 56 (by omega)]; exact q8
      have kt : ∀ {x y : Nat}, x < 100 → y < 100 → (nI x ≤ nI y ↔ x ≤ y) := fun hx hy => nI_leI (by omega) (by omega)
      have klt : ∀ {x y : Nat}, x < 100 → y < 100 → (nI x < nI y ↔ x < y) := fun hx hy => nI_ltI (by omega) (by omega)
      have tp : ∀ {x : Nat}, 0 < x → nI x - 1 = nI (x - 1) := fun {x} hx => by
        obtain ⟨m, rfl⟩ : ∃ m, x = m + 1 := ⟨x - 1, by omega⟩
        exact nI_pred m
      -- the turn before it is wrapped: w
      obtain ⟨w, hw⟩ : ∃ w, w = if k < t then t - 1 else t := ⟨_, rfl⟩
      by_cases hkt : k < t
      · rw [if_pos hkt] at hw
        by_cases hwr : w < n - 1
        · refine ⟨nI (n - 1), up2 (up2 σ' 55 2 ((σ' 55 2) - 1)) 55 1 ((up2 σ' 55 2 ((σ' 55 2) - 1)) 55 1 - 1), up2 (up2 μ' 0 16 (μ' 0 16 - 1)) 0 16 (nI w), fin _ _ w ?_ ?_ ?_ ?_ (by omega) (fun c hc => by rw [up2_ne hc, up2_ne hc]) (fun c hc => by rw [up2_ne hc, up2_ne hc]) ?_, fun Q q => ?_, fun Q q => ?_⟩
          · rw [up2_eq, up2_eq, upd_ne (by omega), upd_eq]; exact e2
          · rw [up2_eq, up2_eq, upd_eq, upd_ne (by omega), s55, o3, hw]; exact tp (by omega)
          · rw [up2_eq, up2_eq, upd_ne (by omega), upd_ne (by omega)]; exact m14
          · rw [up2_eq, upd_eq]
          · intro c c1 c2
            rw [up2_eq, up2_eq, upd_ne c2, upd_ne c2, m0, upd_ne c1]
          · refine hc _ _ ⟨fun _ => hc3 _ ⟨fun _ => g5 _ (fun x ex => ?_), fun z => absurd z hn1⟩, fun z => absurd z (by decide)⟩
            subst ex
            refine ⟨fun z => absurd z ?_, fun _ x ex => ?_⟩
            · rw [up2_eq, upd_ne (by omega), s55, o3, kt (by omega) (by omega)]; omega
            · subst ex
              refine ⟨fun _ => ?_, fun z => absurd ?_ z⟩
              · have e9 : (up2 (up2 σ' 55 2 (σ' 55 2 - 1)) 55 1 (up2 σ' 55 2 (σ' 55 2 - 1) 55 1 - 1)) 55 2 = nI (n - 1) := by rw [up2_eq, up2_eq, upd_ne (by omega), upd_eq]; exact e2
                show Q ((up2 (up2 σ' 55 2 (σ' 55 2 - 1)) 55 1 (up2 σ' 55 2 (σ' 55 2 - 1) 55 1 - 1)) 55 2) _
                rw [e9]
                exact q
              · rw [up2_eq, up2_eq, upd_eq, upd_ne (by omega), upd_ne (by omega), upd_eq, e2, s55, o3, tp (by omega), klt (by omega) (by omega)]; omega
          · refine hm _ _ ⟨fun _ => hm3 _ ⟨fun _ x ex => ?_, fun z => absurd hk0 z⟩, fun z => absurd z (by decide)⟩
            subst ex
            refine g6 _ ⟨fun z => absurd z ?_, fun _ x ex => ?_⟩
            · rw [m16, kt (by omega) (by omega)]; omega
            · subst ex
              have e16 : up2 μ' 0 16 (μ' 0 16 - 1) 0 16 = nI w := by rw [up2_eq, upd_eq, m16, hw]; exact tp (by omega)
              have e14b : up2 μ' 0 16 (μ' 0 16 - 1) 0 14 = nI (n - 1) := by rw [up2_eq, upd_ne (by omega)]; exact m14
              refine ⟨fun _ x ex => ?_, fun z => absurd ?_ z⟩
              · subst ex
                rw [e16, up2_eq, upd_ne (by omega), e14b]
                exact q
              · rw [e16, e14b, klt (by omega) (by omega)]; omega
        · -- wrapped: n - 1 <= t - 1 can't be
          exact absurd hwr (by omega)
      · rw [if_neg hkt] at hw
        by_cases hwr : w < n - 1
        · refine ⟨nI (n - 1), up2 σ' 55 2 ((σ' 55 2) - 1), up2 (up2 μ' 0 16 (μ' 0 16)) 0 16 (nI w), fin _ _ w ?_ ?_ ?_ ?_ (by omega) (fun c hc => by rw [up2_ne hc]) (fun c hc => by rw [up2_ne hc, up2_ne hc]) ?_, fun Q q => ?_, fun Q q => ?_⟩
          · rw [up2_eq, upd_eq]; exact e2
          · rw [up2_eq, upd_ne (by omega), s55, o3, hw]
          · rw [up2_eq, up2_eq, upd_ne (by omega), upd_ne (by omega)]; exact m14
          · rw [up2_eq, upd_eq]
          · intro c c1 c2
            rw [up2_eq, up2_eq, upd_ne c2, upd_ne c2, m0, upd_ne c1]
          · refine hc _ _ ⟨fun _ => hc3 _ ⟨fun _ => g5 _ (fun x ex => ?_), fun z => absurd z hn1⟩, fun z => absurd z (by decide)⟩
            subst ex
            refine ⟨fun _ => ⟨fun _ => ?_, fun z => absurd ?_ z⟩, fun z => absurd ?_ z⟩
            · have e9 : (up2 σ' 55 2 (σ' 55 2 - 1)) 55 2 = nI (n - 1) := by rw [up2_eq, upd_eq]; exact e2
              show Q ((up2 σ' 55 2 (σ' 55 2 - 1)) 55 2) _
              rw [e9]
              exact q
            · rw [up2_eq, upd_ne (by omega), upd_eq, e2, s55, o3, klt (by omega) (by omega)]; omega
            · rw [up2_eq, upd_ne (by omega), s55, o3, kt (by omega) (by omega)]; omega
          · refine hm _ _ ⟨fun _ => hm3 _ ⟨fun _ x ex => ?_, fun z => absurd hk0 z⟩, fun z => absurd z (by decide)⟩
            subst ex
            refine g6 _ ⟨fun _ x ex => ?_, fun z => absurd ?_ z⟩
            · subst ex
              have e16 : up2 μ' 0 16 (μ' 0 16) 0 16 = nI w := by rw [up2_eq, upd_eq, m16, hw]
              have e14b : up2 μ' 0 16 (μ' 0 16) 0 14 = nI (n - 1) := by rw [up2_eq, upd_ne (by omega)]; exact m14
              refine ⟨fun _ x ex => ?_, fun z => absurd ?_ z⟩
              · subst ex
                rw [e16, up2_eq, upd_ne (by omega), e14b]
                exact q
              · rw [e16, e14b, klt (by omega) (by omega)]; omega
            · rw [m16, kt (by omega) (by omega)]; omega
        · refine ⟨nI (n - 1), up2 (up2 σ' 55 2 ((σ' 55 2) - 1)) 55 1 0, up2 (up2 μ' 0 16 (μ' 0 16)) 0 16 0, fin _ _ 0 ?_ ?_ ?_ ?_ (by omega) (fun c hc => by rw [up2_ne hc, up2_ne hc]) (fun c hc => by rw [up2_ne hc, up2_ne hc]) ?_, fun Q q => ?_, fun Q q => ?_⟩
          · rw [up2_eq, up2_eq, upd_ne (by omega), upd_eq]; exact e2
          · rw [up2_eq, upd_eq]; rfl
          · rw [up2_eq, up2_eq, upd_ne (by omega), upd_ne (by omega)]; exact m14
          · rw [up2_eq, upd_eq]; rfl
          · intro c c1 c2
            rw [up2_eq, up2_eq, upd_ne c2, upd_ne c2, m0, upd_ne c1]
          · refine hc _ _ ⟨fun _ => hc3 _ ⟨fun _ => g5 _ (fun x ex => ?_), fun z => absurd z hn1⟩, fun z => absurd z (by decide)⟩
            subst ex
            refine ⟨fun _ => ⟨fun z => absurd z ?_, fun _ x ex => ?_⟩, fun z => absurd ?_ z⟩
            · rw [up2_eq, upd_ne (by omega), upd_eq, e2, s55, o3, klt (by omega) (by omega)]; omega
            · subst ex
              rw [up2_eq, upd_ne (by omega), up2_eq, upd_eq, e2]
              rw [e2] at q
              exact q
            · rw [up2_eq, upd_ne (by omega), s55, o3, kt (by omega) (by omega)]; omega
          · refine hm _ _ ⟨fun _ => hm3 _ ⟨fun _ x ex => ?_, fun z => absurd hk0 z⟩, fun z => absurd z (by decide)⟩
            subst ex
            refine g6 _ ⟨fun _ x ex => ?_, fun z => absurd ?_ z⟩
            · subst ex
              have e16 : up2 μ' 0 16 (μ' 0 16) 0 16 = nI w := by rw [up2_eq, upd_eq, m16, hw]
              have e14b : up2 μ' 0 16 (μ' 0 16) 0 14 = nI (n - 1) := by rw [up2_eq, upd_ne (by omega)]; exact m14
              refine ⟨fun z => absurd z ?_, fun _ x ex => ?_⟩
              · rw [e16, e14b, klt (by omega) (by omega)]; omega
              · subst ex
                rw [up2_eq, upd_ne (by omega), e14b]
                exact q
            · rw [m16, kt (by omega) (by omega)]; omega
  · skip
    refine ⟨-1, σ, μ, h, fun Q q => ?_, fun Q q => ?_⟩
    · unfold wp_X9_stop
      repeat' first | exact q | assumption | with_reducible refine And.intro ?_ ?_ | (intro z; contradiction) | (intro z; exact absurd z (by decide)) | (intro z; exact absurd rfl z) | (intro x e; subst e) | intro _ | refine hc _ _ ?_
    · unfold wp_X10_stop
      repeat' first | exact q | assumption | with_reducible refine And.intro ?_ ?_ | (intro z; contradiction) | (intro z; exact absurd z (by decide)) | (intro z; exact absurd rfl z) | (intro x e; subst e) | intro _ | refine hm _ _ ?_
