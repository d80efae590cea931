/-- the reference: its row is moved up -/
theorem off_m {ν : St} {n : Nat} (hn : 1 ≤ n) (hn2 : n ≤ 12) (b5 : ν 0 32 = nI n) : ∃ μ' : St, (∀ i, i ≠ 0 → (i < 22 ∨ 28 < i) → μ' i = ν i) ∧ μ' 0 32 = nI (n - 1) ∧ (∀ j, j ≠ 32 → μ' 0 j = ν 0 j) ∧ (∀ c j, 22 ≤ c → c ≤ 28 → j < n - 1 → μ' c j = ν c (j + 1)) ∧ ∀ Q : St → Prop, Q μ' → wb_X10_comeOff_135 Q ν := by
  have e : ν 0 32 - 1 = nI (n - 1) := by
    rw [b5]
    obtain ⟨m, rfl⟩ : ∃ m, n = m + 1 := ⟨n - 1, by omega⟩
    exact nI_pred m
  obtain ⟨μ', g1, g2, g3⟩ := shift_loop (N := n - 1) (by omega) (n - 1) 0 (up2 ν 0 32 (ν 0 32 - 1)) (by omega) (by rw [up2_eq, upd_eq]; exact e)
  have m0 : μ' 0 = upd (ν 0) 32 (ν 0 32 - 1) := (g1 0 (by omega)).trans up2_eq
  refine ⟨μ', fun i h1 h2 => (g1 i (by omega)).trans (up2_ne h1), by rw [m0, upd_eq]; exact e, fun j hj => by rw [m0, upd_ne hj], fun c j h1 h2 hj => by rw [g2 c j h1 h2 hj, if_pos (by omega), up2_ne (by omega)], fun Q q x ex => ?_⟩
  subst ex
  exact g3 Q q
theorem z0c : (0 : Int32).toNatClampNeg = 0 := by decide
set_option maxHeartbeats 4000000 in
theorem take_m {μ : St} {n : Nat} (hn : 1 ≤ n) (hn2 : n ≤ 12) (b5 : μ 0 32 = nI n) {r : Int32} (r7 : vp_in r 7) (hj : ∀ Q : Int32 → St → Prop, Q r μ → wp_X10_judgeOf Q 0 μ) (hm : vp_in (μ 24 0) 30) : ∃ μ' : St,
    (∀ i, i ≠ 0 → i ≠ 20 → i ≠ 21 → (i < 22 ∨ 29 < i) → μ' i = μ i) ∧ (∀ c j, 22 ≤ c → c ≤ 28 → j < n - 1 → μ' c j = μ c (j + 1)) ∧ μ' 0 32 = nI (n - 1) ∧ (∀ j, j ≠ 26 → j ≠ 32 → μ' 0 j = μ 0 j) ∧
    μ' 29 = upd (μ 29) r.toNatClampNeg (μ 29 r.toNatClampNeg + 1) ∧
    (r = 0 → μ' 20 = upd (μ 20) (μ 24 0).toNatClampNeg (μ 20 (μ 24 0).toNatClampNeg + 1) ∧ μ' 21 = upd (μ 21) (μ 24 0).toNatClampNeg (μ 21 (μ 24 0).toNatClampNeg + 0)) ∧
    (¬ r = 0 → μ' 20 = upd (μ 20) (μ 24 0).toNatClampNeg (μ 20 (μ 24 0).toNatClampNeg + 0) ∧ μ' 21 = upd (μ 21) (μ 24 0).toNatClampNeg (μ 21 (μ 24 0).toNatClampNeg + 1)) ∧
    (jrem (μ 22 0) 4 = 0 → μ' 0 26 = (if (100 : Int32) < (if (μ 0 26 + (μ 27 0 - μ 26 0) / 2) < (900 : Int32) then (μ 0 26 + (μ 27 0 - μ 26 0) / 2) else (900 : Int32)) then (if (μ 0 26 + (μ 27 0 - μ 26 0) / 2) < (900 : Int32) then (μ 0 26 + (μ 27 0 - μ 26 0) / 2) else (900 : Int32)) else (100 : Int32))) ∧
    (¬ jrem (μ 22 0) 4 = 0 → μ' 0 26 = μ 0 26) ∧ ∀ Q : St → Prop, Q μ' → wp_X10_comeOff Q μ := by
  have v0 : vp_in (0 : Int32) 12 := by unfold vp_in; decide
  -- both ways at once: what is added to the good and to the bad
  have both : ∀ za zb : Int32, ∃ μ' : St, (∀ i, i ≠ 0 → i ≠ 20 → i ≠ 21 → (i < 22 ∨ 29 < i) → μ' i = μ i) ∧ (∀ c j, 22 ≤ c → c ≤ 28 → j < n - 1 → μ' c j = μ c (j + 1)) ∧ μ' 0 32 = nI (n - 1) ∧ (∀ j, j ≠ 26 → j ≠ 32 → μ' 0 j = μ 0 j) ∧
      μ' 29 = upd (μ 29) r.toNatClampNeg (μ 29 r.toNatClampNeg + 1) ∧ μ' 20 = upd (μ 20) (μ 24 0).toNatClampNeg (μ 20 (μ 24 0).toNatClampNeg + za) ∧ μ' 21 = upd (μ 21) (μ 24 0).toNatClampNeg (μ 21 (μ 24 0).toNatClampNeg + zb) ∧
      (jrem (μ 22 0) 4 = 0 → μ' 0 26 = (if (100 : Int32) < (if (μ 0 26 + (μ 27 0 - μ 26 0) / 2) < (900 : Int32) then (μ 0 26 + (μ 27 0 - μ 26 0) / 2) else (900 : Int32)) then (if (μ 0 26 + (μ 27 0 - μ 26 0) / 2) < (900 : Int32) then (μ 0 26 + (μ 27 0 - μ 26 0) / 2) else (900 : Int32)) else (100 : Int32))) ∧
      (¬ jrem (μ 22 0) 4 = 0 → μ' 0 26 = μ 0 26) ∧ ∀ Q : St → Prop, Q μ' → wb_X10_comeOff_60 Q zb (μ 21 (μ 24 0).toNatClampNeg) (μ 24 0) (up2 (up2 μ 29 r.toNatClampNeg (μ 29 r.toNatClampNeg + 1)) 20 (μ 24 0).toNatClampNeg (μ 20 (μ 24 0).toNatClampNeg + za)) := by
    intro za zb
    obtain ⟨B, hB⟩ : ∃ B, B = up2 (up2 (up2 μ 29 r.toNatClampNeg (μ 29 r.toNatClampNeg + 1)) 20 (μ 24 0).toNatClampNeg (μ 20 (μ 24 0).toNatClampNeg + za)) 21 (μ 24 0).toNatClampNeg (μ 21 (μ 24 0).toNatClampNeg + zb) := ⟨_, rfl⟩
    have B0 : B 0 = μ 0 := by rw [hB]; rfl
    have B22 : B 22 = μ 22 := by rw [hB]; rfl
    have B26 : B 26 = μ 26 := by rw [hB]; rfl
    have B27 : B 27 = μ 27 := by rw [hB]; rfl
    have B29 : B 29 = upd (μ 29) r.toNatClampNeg (μ 29 r.toNatClampNeg + 1) := by rw [hB]; rfl
    have B20 : B 20 = upd (μ 20) (μ 24 0).toNatClampNeg (μ 20 (μ 24 0).toNatClampNeg + za) := by rw [hB]; rfl
    have B21 : B 21 = upd (μ 21) (μ 24 0).toNatClampNeg (μ 21 (μ 24 0).toNatClampNeg + zb) := by rw [hB]; rfl
    have Bi : ∀ i, i ≠ 20 → i ≠ 21 → i ≠ 29 → B i = μ i := fun i h1 h2 h3 => by rw [hB, up2_ne h2, up2_ne h1, up2_ne h3]
    by_cases hs : jrem (μ 22 0) 4 = 0
    · obtain ⟨x, hx⟩ : ∃ x, x = μ 0 26 + (μ 27 0 - μ 26 0) / 2 := ⟨_, rfl⟩
      obtain ⟨T, T1, T2, T3, T4⟩ := clampT x
      obtain ⟨μ', g1, g2, g3, g4, g5⟩ := off_m (ν := up2 (up2 B 0 26 x) 0 26 T) hn hn2 (by rw [up2_eq, up2_eq, upd_ne (by omega), upd_ne (by omega), B0]; exact b5)
      refine ⟨μ', fun i h1 h2 h3 h4 => by rw [g1 i h1 (by omega), up2_ne h1, up2_ne h1, Bi i h2 h3 (by omega)], fun c j h1 h2 hj => by rw [g4 c j h1 h2 hj, up2_ne (by omega), up2_ne (by omega), Bi c (by omega) (by omega) (by omega)], g2, fun j h1 h2 => by rw [g3 j h2, up2_eq, up2_eq, upd_ne h1, upd_ne h1, B0], by rw [g1 29 (by omega) (by omega), up2_ne (by omega), up2_ne (by omega), B29], by rw [g1 20 (by omega) (by omega), up2_ne (by omega), up2_ne (by omega), B20], by rw [g1 21 (by omega) (by omega), up2_ne (by omega), up2_ne (by omega), B21], fun _ => by rw [g3 26 (by omega), up2_eq, upd_eq, ← T3, hx], fun z => absurd hs z, fun Q q => ⟨hm, fun y ey => ?_⟩⟩
      have ey : y = B := ey.trans hB.symm
      subst ey
      rw [z0c, B22, B27, B26, B0]
      refine ⟨v0, fun z => absurd hs z, fun _ => ⟨v0, v0, fun y ey => ?_⟩⟩
      rw [← hx] at ey
      subst ey
      refine T4 Q _ (by rw [up2_eq, upd_eq]) (fun y ey => ?_)
      subst ey
      exact g5 Q q
    · obtain ⟨μ', g1, g2, g3, g4, g5⟩ := off_m (ν := B) hn hn2 (by rw [B0]; exact b5)
      refine ⟨μ', fun i h1 h2 h3 h4 => by rw [g1 i h1 (by omega), Bi i h2 h3 (by omega)], fun c j h1 h2 hj => by rw [g4 c j h1 h2 hj, Bi c (by omega) (by omega) (by omega)], g2, fun j h1 h2 => by rw [g3 j h2, B0], by rw [g1 29 (by omega) (by omega), B29], by rw [g1 20 (by omega) (by omega), B20], by rw [g1 21 (by omega) (by omega), B21], fun z => absurd z hs, fun _ => by rw [g3 26 (by omega), B0], fun Q q => ⟨hm, fun y ey => ?_⟩⟩
      have ey : y = B := ey.trans hB.symm
      subst ey
      rw [z0c, B22]
      exact ⟨v0, fun _ => g5 Q q, fun z => absurd z hs⟩
  have A24 : ∀ za : Int32, (up2 (up2 μ 29 r.toNatClampNeg (μ 29 r.toNatClampNeg + 1)) 20 (μ 24 0).toNatClampNeg (μ 20 (μ 24 0).toNatClampNeg + za)) 24 = μ 24 := fun _ => rfl
  have A21 : ∀ za : Int32, (up2 (up2 μ 29 r.toNatClampNeg (μ 29 r.toNatClampNeg + 1)) 20 (μ 24 0).toNatClampNeg (μ 20 (μ 24 0).toNatClampNeg + za)) 21 = μ 21 := fun _ => rfl
  by_cases h0 : r = 0
  · obtain ⟨μ', g1, g2, g3, g4, g5, g6, g7, g8, g9, g10⟩ := both 1 0
    refine ⟨μ', g1, g2, g3, g4, g5, fun _ => ⟨g6, g7⟩, fun z => absurd h0 z, g8, g9, fun Q q => hj _ ⟨r7, r7, fun y ey => ?_⟩⟩
    subst ey
    rw [z0c]
    refine ⟨v0, hm, fun z => absurd h0 z, fun _ => ⟨hm, fun y ey => ?_⟩⟩
    subst ey
    rw [z0c]
    refine ⟨v0, hm, fun z => absurd h0 z, fun _ => ?_⟩
    exact g10 Q q
  · obtain ⟨μ', g1, g2, g3, g4, g5, g6, g7, g8, g9, g10⟩ := both 0 1
    refine ⟨μ', g1, g2, g3, g4, g5, fun z => absurd z h0, fun _ => ⟨g6, g7⟩, g8, g9, fun Q q => hj _ ⟨r7, r7, fun y ey => ?_⟩⟩
    subst ey
    rw [z0c]
    refine ⟨v0, hm, fun _ => ⟨hm, fun y ey => ?_⟩, fun z => absurd z h0⟩
    subst ey
    rw [z0c]
    refine ⟨v0, hm, fun _ => ?_, fun z => absurd z h0⟩
    exact g10 Q q
set_option maxHeartbeats 4000000 in
/-- both: the eldest comes off -/
theorem J_take {σ μ : St} (h : RR σ μ) {n : Nat} (hn : 1 ≤ n) (hn2 : n ≤ 12) (b4' : σ 64 2 = nI n) : ∃ σ' μ' : St, RR σ' μ' ∧ σ' 64 2 = nI (n - 1) ∧ σ' 55 = σ 55 ∧ (∀ Q : St → Prop, Q σ' → wp_X9_takeOffEldest Q σ) ∧ (∀ Q : St → Prop, Q μ' → wp_X10_comeOff Q μ) := by
  obtain ⟨e, n1, b1, b2, b3, b4, b5, b6⟩ := h.2.2.2.2.1
  have en : n1 = n := (nI_eq (by omega) (by omega)).mp (b4.symm.trans b4')
  subst en
  obtain ⟨g0, g1, g2, g3, g5, g4, g6, gok⟩ := b6 0 (by omega)
  have e0 : (e + 0) % 12 = e := by omega
  rw [e0] at g0 g1 g2 g3 g4 g5 g6 gok
  have hM := h.2.2.1
  have hS := h.2.1
  obtain ⟨σ', s1, s2, s3, s4, s5, s6, s7, s8, s9, s10⟩ := take_c b1 hn hn2 b3 b4 gok
  have r7 := vdV_in (p := σ 60) gok
  have hj : ∀ Q : Int32 → St → Prop, Q (vdV (σ (66 + e)) (σ 60)) μ → wp_X10_judgeOf Q 0 μ := fun Q q => vd_m (k := 0) (by omega) g2 g4 g5 g6 gok (fun j hj => (hM.1 j hj).2.2.1) q
  obtain ⟨μ', m1, m2, m3, m4, m5, m6, m7, m8, m9, m10⟩ := take_m hn hn2 b5 r7 hj (by rw [← g2]; exact gok.1)
  have hmk : (σ (66 + e) 2).toNatClampNeg < 30 := vp_lt gok.1
  have steer : jrem (σ (66 + e) 0) 4 = 0 ↔ jrem (μ 22 0) 4 = 0 := by rw [g0]
  refine ⟨σ', μ', ⟨rG_c (s1 _ (by omega) (by omega) (by omega) (by omega) (by omega)) (s1 _ (by omega) (by omega) (by omega) (by omega) (by omega)) (s1 _ (by omega) (by omega) (by omega) (by omega) (by omega)) (m1 _ (by omega) (by omega) (by omega) (by omega)) (m1 _ (by omega) (by omega) (by omega) (by omega)) (m1 _ (by omega) (by omega) (by omega) (by omega)) h.1, ⟨?_, ?_, ?_, ?_, ?_, ?_, ?_⟩, ⟨fun j hj => ?_, ?_⟩, rO_c (s1 _ (by omega) (by omega) (by omega) (by omega) (by omega)) (s1 _ (by omega) (by omega) (by omega) (by omega) (by omega)) (m4 _ (by omega) (by omega)) (m4 _ (by omega) (by omega)) (m1 _ (by omega) (by omega) (by omega) (by omega)) h.2.2.2.1, ?_, rD_c (fun i _ _ _ _ _ => s1 _ (by omega) (by omega) (by omega) (by omega) (by omega)) (m4 _ (by omega) (by omega)) (m4 _ (by omega) (by omega)) (fun i _ _ => m1 _ (by omega) (by omega) (by omega) (by omega)) h.2.2.2.2.2.1, rA_c (fun i _ _ => s1 _ (by omega) (by omega) (by omega) (by omega) (by omega)) (m4 _ (by omega) (by omega)) (fun i _ _ => m1 _ (by omega) (by omega) (by omega) (by omega)) h.2.2.2.2.2.2⟩, s3, s1 _ (by omega) (by omega) (by omega) (by omega) (by omega), s10, m10⟩
  · intro j hj
    rw [s5, m5, hS.1 _ (vp_lt r7)]
    exact b_upd hS.1 j hj
  · rw [s4 _ (by omega), m4 _ (by omega) (by omega)]; exact hS.2.1
  · rw [s4 _ (by omega), m4 _ (by omega) (by omega)]; exact hS.2.2.1
  · by_cases hs : jrem (σ (66 + e) 0) 4 = 0
    · rw [s8 hs, m8 (steer.mp hs), ← g4, ← g5, ← hS.2.2.2.1.1]
      obtain ⟨T, T1, T2, T3, _⟩ := clampT (σ 0 11 + (σ (66 + e) 4 - σ (66 + e) 5) / 2)
      rw [T3]
      exact ⟨rfl, T1, T2⟩
    · rw [s9 hs, m9 (fun z => hs (steer.mpr z))]; exact hS.2.2.2.1
  · rw [s4 _ (by omega), m4 _ (by omega) (by omega)]; exact hS.2.2.2.2.1
  · rw [s4 _ (by omega), m4 _ (by omega) (by omega)]; exact hS.2.2.2.2.2.1
  · rw [s4 _ (by omega), m4 _ (by omega) (by omega)]; exact hS.2.2.2.2.2.2
  · rw [s1 58 (by omega) (by omega) (by omega) (by omega) (by omega), s1 59 (by omega) (by omega) (by omega) (by omega) (by omega), s1 60 (by omega) (by omega) (by omega) (by omega) (by omega), m1 17 (by omega) (by omega) (by omega) (by omega), m1 18 (by omega) (by omega) (by omega) (by omega), m1 19 (by omega) (by omega) (by omega) (by omega)]
    refine ⟨(hM.1 j hj).1, (hM.1 j hj).2.1, (hM.1 j hj).2.2.1, (hM.1 j hj).2.2.2.1, ?_, ?_⟩
    · by_cases hr : vdV (σ (66 + e)) (σ 60) = 0
      · rw [(s6 hr).1, (m6 hr).1, ← g2, ← (hM.1 _ hmk).2.2.2.2.1]
        exact b_upd (n := 30) (fun j hj => (hM.1 j hj).2.2.2.2.1) j hj
      · rw [(s7 hr).2, (m7 hr).1, ← g2, Int32.add_zero]
        by_cases z : j = (σ (66 + e) 2).toNatClampNeg
        · rw [z, upd_eq]; exact (hM.1 _ hmk).2.2.2.2.1
        · rw [upd_ne z]; exact (hM.1 j hj).2.2.2.2.1
    · by_cases hr : vdV (σ (66 + e)) (σ 60) = 0
      · rw [(s6 hr).2, (m6 hr).2, ← g2, Int32.add_zero]
        by_cases z : j = (σ (66 + e) 2).toNatClampNeg
        · rw [z, upd_eq]; exact (hM.1 _ hmk).2.2.2.2.2
        · rw [upd_ne z]; exact (hM.1 j hj).2.2.2.2.2
      · rw [(s7 hr).1, (m7 hr).2, ← g2, ← (hM.1 _ hmk).2.2.2.2.2]
        exact b_upd (n := 30) (fun j hj => (hM.1 j hj).2.2.2.2.2) j hj
  · rw [s1 63 (by omega) (by omega) (by omega) (by omega) (by omega), m1 14 (by omega) (by omega) (by omega) (by omega)]; exact hM.2
  · refine ⟨(e + 1) % 12, n1 - 1, Nat.mod_lt _ (by decide), by omega, s2, s3, m3, fun k hk => ?_⟩
    have hl : (e + (k + 1)) % 12 < 12 := Nat.mod_lt _ (by decide)
    rw [show ((e + 1) % 12 + k) % 12 = (e + (k + 1)) % 12 by omega, s1 (66 + (e + (k + 1)) % 12) (by omega) (by omega) (by omega) (by omega) (by omega), m2 22 k (by omega) (by omega) hk, m2 23 k (by omega) (by omega) hk, m2 24 k (by omega) (by omega) hk, m2 25 k (by omega) (by omega) hk, m2 26 k (by omega) (by omega) hk, m2 27 k (by omega) (by omega) hk, m2 28 k (by omega) (by omega) hk]
    exact b6 (k + 1) (by omega)
