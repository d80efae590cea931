/-! a bottle comes off -/
theorem clampT (x : Int32) : ∃ T : Int32, 100 ≤ T.toInt ∧ T.toInt ≤ 900 ∧ (if (100 : Int32) < (if x < (900 : Int32) then x else (900 : Int32)) then (if x < (900 : Int32) then x else (900 : Int32)) else (100 : Int32)) = T ∧ (∀ (Q : St → Prop) (σ : St), σ 0 26 = x → wb_X10_comeOff_132 Q T σ → ((100 : Int32) ≤ (σ 0 26) → (((σ 0 26) ≤ (900 : Int32) → (wb_X10_comeOff_132 Q (σ 0 26) σ)) ∧ (¬ (σ 0 26) ≤ (900 : Int32) → (wb_X10_comeOff_132 Q (900 : Int32) σ)))) ∧ (¬ (100 : Int32) ≤ (σ 0 26) → (wb_X10_comeOff_132 Q (100 : Int32) σ))) := by
  have e1 : (100 : Int32).toInt = 100 := by decide
  have e9 : (900 : Int32).toInt = 900 := by decide
  simp only [Int32.lt_iff_toInt_lt, Int32.le_iff_toInt_le, e1, e9]
  by_cases h1 : x.toInt < 900
  · simp only [if_pos h1]
    by_cases h2 : 100 < x.toInt
    · refine ⟨x, by omega, by omega, if_pos h2, fun Q σ es q => ?_⟩
      rw [es]
      exact ⟨fun _ => ⟨fun _ => q, fun z => absurd (by omega) z⟩, fun z => absurd (by omega) z⟩
    · refine ⟨100, by rw [e1]; omega, by rw [e1]; omega, if_neg h2, fun Q σ es q => ?_⟩
      rw [es]
      refine ⟨fun z => ⟨fun _ => ?_, fun y => absurd (by omega) y⟩, fun _ => q⟩
      have : x = 100 := Int32.toInt_inj.mp (by rw [e1]; omega)
      rw [this]
      exact q
  · simp only [if_neg h1, e9]
    refine ⟨900, by rw [e9]; omega, by rw [e9]; omega, if_pos (by omega), fun Q σ es q => ?_⟩
    rw [es]
    refine ⟨fun _ => ⟨fun z => ?_, fun _ => q⟩, fun z => absurd (by omega) z⟩
    have : x = 900 := Int32.toInt_inj.mp (by rw [e9]; omega)
    rw [this]
    exact q
set_option maxHeartbeats 4000000 in
theorem shift_loop {N : Nat} (hN : N ≤ 11) : ∀ (m i : Nat) (μ : St), i + m = N → μ 0 32 = nI N → ∃ μ' : St, (∀ c, c < 22 ∨ 28 < c → μ' c = μ c) ∧ (∀ c j, 22 ≤ c → c ≤ 28 → j < N → μ' c j = if i ≤ j then μ c (j + 1) else μ c j) ∧ (∀ Q : St → Prop, Q μ' → ∃ f, wl_X10_comeOff_147 Q f μ (nI i)) := by
  intro m
  induction m with
  | zero =>
    intro i μ hi h0
    refine ⟨μ, fun _ _ => rfl, fun c j _ _ hj => by rw [if_neg (by omega)], fun Q q => ⟨1, ⟨fun _ => q, fun z => absurd ?_ z⟩⟩⟩
    rw [h0]; exact nI_le (by omega) (by omega)
  | succ m ih =>
    intro i μ hi h0
    have hM : ¬ (μ 0 32) ≤ nI i := by rw [h0]; exact nI_ge (by omega) (by omega)
    have ci : (nI i).toNatClampNeg = i := nI_clamp (by omega)
    have cj : (nI i + 1).toNatClampNeg = i + 1 := by rw [nI_1]; exact nI_clamp (by omega)
    have v0 : vp_in (nI i) 12 := vp_in_nI (by omega) (by decide)
    have v1 : vp_in (nI i + 1) 12 := by rw [nI_1]; exact vp_in_nI (by omega) (by decide)
    obtain ⟨μ', g1, g2, g3⟩ := ih (i + 1) (up2 (up2 (up2 (up2 (up2 (up2 (up2 μ 22 i (μ 22 (i + 1))) 23 i (μ 23 (i + 1))) 24 i (μ 24 (i + 1))) 25 i (μ 25 (i + 1))) 26 i (μ 26 (i + 1))) 27 i (μ 27 (i + 1))) 28 i (μ 28 (i + 1))) (by omega) h0
    refine ⟨μ', fun c hc => (g1 c hc).trans (by simp (disch := omega) only [up2_ne]), fun c j c1 c2 hj => ?_, fun Q q => ?_⟩
    · have key : (up2 (up2 (up2 (up2 (up2 (up2 (up2 μ 22 i (μ 22 (i + 1))) 23 i (μ 23 (i + 1))) 24 i (μ 24 (i + 1))) 25 i (μ 25 (i + 1))) 26 i (μ 26 (i + 1))) 27 i (μ 27 (i + 1))) 28 i (μ 28 (i + 1))) c = upd (μ c) i (μ c (i + 1)) := by
        rcases (show c = 22 ∨ c = 23 ∨ c = 24 ∨ c = 25 ∨ c = 26 ∨ c = 27 ∨ c = 28 by omega) with rfl | rfl | rfl | rfl | rfl | rfl | rfl <;> rfl
      rw [g2 c j c1 c2 hj, key]
      by_cases z : i + 1 ≤ j
      · rw [if_pos z, if_pos (by omega), upd_ne (by omega)]
      · rw [if_neg z]
        by_cases y : j = i
        · rw [y, upd_eq, if_pos (by omega)]
        · rw [upd_ne y, if_neg (by omega)]
    · obtain ⟨f, hf⟩ := g3 Q q
      refine ⟨f + 1, ⟨fun z => absurd z hM, fun _ => ⟨v1, v0, fun x1 e1 => ⟨v1, v0, fun x2 e2 => ⟨v1, v0, fun x3 e3 => ⟨v1, v0, fun x4 e4 => ⟨v1, v0, fun x5 e5 => ⟨v1, v0, fun x6 e6 => ⟨v1, v0, fun x7 e7 y ey => ?_⟩⟩⟩⟩⟩⟩⟩⟩⟩
      subst e1; subst e2; subst e3; subst e4; subst e5; subst e6; subst e7; subst ey
      rw [ci, cj, nI_1]
      exact hf
set_option maxHeartbeats 4000000 in
/-- the class: the eldest bottle comes off -/
theorem take_c {σ : St} {e n : Nat} (he : e < 12) (hn : 1 ≤ n) (hn2 : n ≤ 12) (b3 : σ 64 1 = nI e) (b4 : σ 64 2 = nI n) (hok : bOK (σ (66 + e))) : ∃ σ' : St,
    (∀ i, i ≠ 0 → i ≠ 61 → i ≠ 62 → i ≠ 64 → i ≠ 81 → σ' i = σ i) ∧ σ' 64 1 = nI ((e + 1) % 12) ∧ σ' 64 2 = nI (n - 1) ∧ (∀ j, j ≠ 11 → σ' 0 j = σ 0 j) ∧
    σ' 81 = upd (σ 81) (vdV (σ (66 + e)) (σ 60)).toNatClampNeg (σ 81 (vdV (σ (66 + e)) (σ 60)).toNatClampNeg + 1) ∧
    (vdV (σ (66 + e)) (σ 60) = 0 → σ' 61 = upd (σ 61) (σ (66 + e) 2).toNatClampNeg (σ 61 (σ (66 + e) 2).toNatClampNeg + 1) ∧ σ' 62 = σ 62) ∧
    (¬ vdV (σ (66 + e)) (σ 60) = 0 → σ' 62 = upd (σ 62) (σ (66 + e) 2).toNatClampNeg (σ 62 (σ (66 + e) 2).toNatClampNeg + 1) ∧ σ' 61 = σ 61) ∧
    (jrem (σ (66 + e) 0) 4 = 0 → σ' 0 11 = (if (100 : Int32) < (if (σ 0 11 + (σ (66 + e) 4 - σ (66 + e) 5) / 2) < (900 : Int32) then (σ 0 11 + (σ (66 + e) 4 - σ (66 + e) 5) / 2) else (900 : Int32)) then (if (σ 0 11 + (σ (66 + e) 4 - σ (66 + e) 5) / 2) < (900 : Int32) then (σ 0 11 + (σ (66 + e) 4 - σ (66 + e) 5) / 2) else (900 : Int32)) else (100 : Int32))) ∧
    (¬ jrem (σ (66 + e) 0) 4 = 0 → σ' 0 11 = σ 0 11) ∧
    ∀ Q : St → Prop, Q σ' → wp_X9_takeOffEldest Q σ := by
  obtain ⟨c, hc⟩ : ∃ c, c = 66 + e := ⟨_, rfl⟩
  have hcl : (σ 64 1).toNatClampNeg = e := by rw [b3]; exact nI_clamp (by omega)
  have hin : vp_in (σ 64 1) 12 := by rw [b3]; exact vp_in_nI he (by decide)
  have E1 : jrem (σ 64 1 + 1) 12 = nI ((e + 1) % 12) := by rw [b3]; exact mod12 (k := 1) he (by omega)
  have E2 : (up2 σ 64 1 (nI ((e + 1) % 12))) 64 2 - 1 = nI (n - 1) := by
    rw [up2_eq, upd_ne (by omega), b4]
    obtain ⟨m, rfl⟩ : ∃ m, n = m + 1 := ⟨n - 1, by omega⟩
    exact nI_pred m
  obtain ⟨τ, hτ⟩ : ∃ τ, τ = up2 (up2 σ 64 1 (nI ((e + 1) % 12))) 64 2 (nI (n - 1)) := ⟨_, rfl⟩
  have tc : τ c = σ c := by rw [hτ, up2_ne (by omega), up2_ne (by omega)]
  have t60 : τ 60 = σ 60 := by rw [hτ, up2_ne (by omega), up2_ne (by omega)]
  obtain ⟨r, hr⟩ : ∃ r, r = vdV (σ c) (σ 60) := ⟨_, rfl⟩
  have r7 : vp_in r 7 := by rw [hr, hc]; exact vdV_in hok
  have kd : kcL.getD c 999 = 1 := by rw [hc]; exact kc_ringN e he
  have start : ∀ Q : St → Prop, (∀ σ8 : St, σ8 = up2 τ 81 r.toNatClampNeg (τ 81 r.toNatClampNeg + 1) → (¬ r = 0 → wb_X9_takeOffEldest_41 Q c 0 (σ8 c 2) σ8) ∧ (r = 0 → wb_X9_takeOffEldest_41 Q c 1 (σ8 c 2) σ8)) → wp_X9_takeOffEldest Q σ := by
    intro Q q
    refine ⟨hin, fun x1 e1 x2 e2 => ?_⟩
    rw [E1] at e1
    subst e1
    rw [E2] at e2
    rw [hcl, ← hc]
    have e3 : x2 = τ := e2.trans hτ.symm
    subst e3
    refine ⟨kd, vd_c (by rw [tc, hc]; exact hok.1) ?_⟩
    rw [tc, t60, ← hr]
    exact ⟨r7, r7, q⟩
  obtain ⟨ρ, hρ⟩ : ∃ ρ, ρ = up2 τ 81 r.toNatClampNeg (τ 81 r.toNatClampNeg + 1) := ⟨_, rfl⟩
  have pc : ρ c = σ c := by rw [hρ, up2_ne (by omega), tc]
  have m30 : vp_in (ρ c 2) 30 := by rw [pc, hc]; exact hok.1
  have T81 : τ 81 = σ 81 := by rw [hτ, up2_ne (by omega), up2_ne (by omega)]
  have rows : ∀ i, i ≠ 64 → i ≠ 81 → ρ i = σ i := fun i h1 h2 => by rw [hρ, up2_ne h2, hτ, up2_ne h1, up2_ne h1]
  have R81 : ρ 81 = upd (σ 81) r.toNatClampNeg (σ 81 r.toNatClampNeg + 1) := by rw [hρ, up2_eq, T81]
  have R64 : ρ 64 = upd (upd (σ 64) 1 (nI ((e + 1) % 12))) 2 (nI (n - 1)) := by rw [hρ, up2_ne (by omega), hτ, up2_eq, up2_eq]
  rw [← hc, ← hr]
  by_cases h0 : r = 0
  · obtain ⟨ξ, hξ⟩ : ∃ ξ, ξ = up2 ρ 61 (ρ c 2).toNatClampNeg (ρ 61 (ρ c 2).toNatClampNeg + 1) := ⟨_, rfl⟩
    have xc : ξ c = σ c := by rw [hξ, up2_ne (by omega), pc]
    have x0 : ξ 0 = σ 0 := by rw [hξ, up2_ne (by omega), rows 0 (by omega) (by omega)]
    have X61 : ξ 61 = upd (σ 61) (σ c 2).toNatClampNeg (σ 61 (σ c 2).toNatClampNeg + 1) := by rw [hξ, up2_eq, pc, rows 61 (by omega) (by omega)]
    have X : ∀ i, i ≠ 61 → ξ i = ρ i := fun i h1 => by rw [hξ, up2_ne h1]
    have go : ∀ Q : St → Prop, ((¬ (jrem (ξ c 0) (4 : Int32)) = 0 → (Q ξ)) ∧ ((jrem (ξ c 0) (4 : Int32)) = 0 → (∀ x13 : Int32, x13 = ((ξ 0 11) + (((ξ c 4) - (ξ c 5)) / (2 : Int32))) → ∀ σ14 : St, σ14 = up2 ξ 0 11 (if (100 : Int32) < (if x13 < (900 : Int32) then x13 else (900 : Int32)) then (if x13 < (900 : Int32) then x13 else (900 : Int32)) else (100 : Int32)) → Q σ14))) → wp_X9_takeOffEldest Q σ := by
      intro Q q
      refine start Q (fun x ex => ?_)
      have ex : x = ρ := ex.trans hρ.symm
      subst ex
      refine ⟨fun z => absurd h0 z, fun _ => ⟨fun z => absurd z (by decide), fun _ => ⟨m30, m30, fun y ey => ?_⟩⟩⟩
      have ey : y = ξ := ey.trans hξ.symm
      subst ey
      exact q
    by_cases hs : jrem (σ c 0) 4 = 0
    · refine ⟨up2 ξ 0 11 (if (100 : Int32) < (if (σ 0 11 + (σ c 4 - σ c 5) / 2) < (900 : Int32) then (σ 0 11 + (σ c 4 - σ c 5) / 2) else (900 : Int32)) then (if (σ 0 11 + (σ c 4 - σ c 5) / 2) < (900 : Int32) then (σ 0 11 + (σ c 4 - σ c 5) / 2) else (900 : Int32)) else (100 : Int32)), fun i h1 h2 h3 h4 h5 => by rw [up2_ne h1, X i h2, rows i h4 h5], by rw [up2_ne (by omega), X 64 (by omega), R64, upd_ne (by omega), upd_eq], by rw [up2_ne (by omega), X 64 (by omega), R64, upd_eq], fun j hj => by rw [up2_eq, upd_ne hj, x0], by rw [up2_ne (by omega), X 81 (by omega), R81], fun _ => ⟨by rw [up2_ne (by omega), X61], by rw [up2_ne (by omega), X 62 (by omega), rows 62 (by omega) (by omega)]⟩, fun z => absurd h0 z, fun _ => by rw [up2_eq, upd_eq], fun z => absurd hs z, fun Q q => go Q ⟨fun z => absurd (by rw [xc]; exact hs) z, fun _ x ex y ey => ?_⟩⟩
      rw [x0, xc] at ex
      subst ex
      subst ey
      exact q
    · exact ⟨ξ, fun i h1 h2 h3 h4 h5 => by rw [X i h2, rows i h4 h5], by rw [X 64 (by omega), R64, upd_ne (by omega), upd_eq], by rw [X 64 (by omega), R64, upd_eq], fun j hj => by rw [x0], by rw [X 81 (by omega), R81], fun _ => ⟨X61, by rw [X 62 (by omega), rows 62 (by omega) (by omega)]⟩, fun z => absurd h0 z, fun z => absurd z hs, fun _ => by rw [x0], fun Q q => go Q ⟨fun _ => q, fun z => absurd (by rw [xc] at z; exact z) hs⟩⟩
  · obtain ⟨ξ, hξ⟩ : ∃ ξ, ξ = up2 ρ 62 (ρ c 2).toNatClampNeg (ρ 62 (ρ c 2).toNatClampNeg + 1) := ⟨_, rfl⟩
    have xc : ξ c = σ c := by rw [hξ, up2_ne (by omega), pc]
    have x0 : ξ 0 = σ 0 := by rw [hξ, up2_ne (by omega), rows 0 (by omega) (by omega)]
    have X61 : ξ 62 = upd (σ 62) (σ c 2).toNatClampNeg (σ 62 (σ c 2).toNatClampNeg + 1) := by rw [hξ, up2_eq, pc, rows 62 (by omega) (by omega)]
    have X : ∀ i, i ≠ 62 → ξ i = ρ i := fun i h1 => by rw [hξ, up2_ne h1]
    have go : ∀ Q : St → Prop, ((¬ (jrem (ξ c 0) (4 : Int32)) = 0 → (Q ξ)) ∧ ((jrem (ξ c 0) (4 : Int32)) = 0 → (∀ x13 : Int32, x13 = ((ξ 0 11) + (((ξ c 4) - (ξ c 5)) / (2 : Int32))) → ∀ σ14 : St, σ14 = up2 ξ 0 11 (if (100 : Int32) < (if x13 < (900 : Int32) then x13 else (900 : Int32)) then (if x13 < (900 : Int32) then x13 else (900 : Int32)) else (100 : Int32)) → Q σ14))) → wp_X9_takeOffEldest Q σ := by
      intro Q q
      refine start Q (fun x ex => ?_)
      have ex : x = ρ := ex.trans hρ.symm
      subst ex
      refine ⟨fun _ => ⟨fun _ => ⟨m30, m30, fun y ey => ?_⟩, fun z => absurd rfl z⟩, fun z => absurd z h0⟩
      have ey : y = ξ := ey.trans hξ.symm
      subst ey
      exact q
    by_cases hs : jrem (σ c 0) 4 = 0
    · refine ⟨up2 ξ 0 11 (if (100 : Int32) < (if (σ 0 11 + (σ c 4 - σ c 5) / 2) < (900 : Int32) then (σ 0 11 + (σ c 4 - σ c 5) / 2) else (900 : Int32)) then (if (σ 0 11 + (σ c 4 - σ c 5) / 2) < (900 : Int32) then (σ 0 11 + (σ c 4 - σ c 5) / 2) else (900 : Int32)) else (100 : Int32)), fun i h1 h2 h3 h4 h5 => by rw [up2_ne h1, X i h3, rows i h4 h5], by rw [up2_ne (by omega), X 64 (by omega), R64, upd_ne (by omega), upd_eq], by rw [up2_ne (by omega), X 64 (by omega), R64, upd_eq], fun j hj => by rw [up2_eq, upd_ne hj, x0], by rw [up2_ne (by omega), X 81 (by omega), R81], fun z => absurd z h0, fun _ => ⟨by rw [up2_ne (by omega), X61], by rw [up2_ne (by omega), X 61 (by omega), rows 61 (by omega) (by omega)]⟩, fun _ => by rw [up2_eq, upd_eq], fun z => absurd hs z, fun Q q => go Q ⟨fun z => absurd (by rw [xc]; exact hs) z, fun _ x ex y ey => ?_⟩⟩
      rw [x0, xc] at ex
      subst ex
      subst ey
      exact q
    · exact ⟨ξ, fun i h1 h2 h3 h4 h5 => by rw [X i h3, rows i h4 h5], by rw [X 64 (by omega), R64, upd_ne (by omega), upd_eq], by rw [X 64 (by omega), R64, upd_eq], fun j hj => by rw [x0], by rw [X 81 (by omega), R81], fun z => absurd z h0, fun _ => ⟨X61, by rw [X 61 (by omega), rows 61 (by omega) (by omega)]⟩, fun z => absurd z hs, fun _ => by rw [x0], fun Q q => go Q ⟨fun _ => q, fun z => absurd (by rw [xc] at z; exact z) hs⟩⟩
