/-! cut and drain -/
set_option maxHeartbeats 4000000 in
theorem J_make {σ μ : St} (h : RR σ μ) (hrun : ¬ σ 55 2 = 0) {n : Nat} (hn : n < 12) (b4' : σ 64 2 = nI n) : ∃ σ' μ' : St, RR σ' μ' ∧ σ' 64 2 = nI (n + 1) ∧ σ' 55 2 = σ 55 2 ∧ (∀ Q : St → Prop, Q σ' → wp_X9_makeBottle Q σ) ∧ (∀ Q : St → Prop, Q μ' → wp_X10_cutOne Q μ) := by
  obtain ⟨e, n1, b1, b2, b3, b4, b5, b6⟩ := h.2.2.2.2.1
  have en : n1 = n := (nI_eq (by omega) (by omega)).mp (b4.symm.trans b4')
  subst en
  obtain ⟨n0, t, hn0, o1, o2, o3, o4, o5, o6, o7, o8⟩ := h.2.2.2.1
  have hG := h.1
  have hS := h.2.1
  have hM := h.2.2.1
  have ht : t < n0 := by
    rcases o5 with z | ⟨z, _⟩
    · exact z
    · exact absurd (by rw [o1, z]; rfl) hrun
  obtain ⟨s, hs⟩ : ∃ s, σ 56 t = s := ⟨_, rfl⟩
  have s6 : vp_in s 6 := by rw [← hs]; exact o7 t ht
  have sk := vp_lt s6
  obtain ⟨m, hm⟩ : ∃ m, σ 63 s.toNatClampNeg = m := ⟨_, rfl⟩
  have m30 : vp_in m 30 := by rw [← hm]; exact (hM.2 _ sk).2
  have mk := vp_lt m30
  obtain ⟨j, hj⟩ : ∃ j, σ 78 s.toNatClampNeg = j := ⟨_, rfl⟩
  have j4 : vp_in j 4 := by rw [← hj]; exact (hG.1 _ sk).2
  have jk := vp_lt j4
  obtain ⟨c, hc⟩ : ∃ c, c = 66 + (e + n1) % 12 := ⟨_, rfl⟩
  have hl : (e + n1) % 12 < 12 := Nat.mod_lt _ (by decide)
  obtain ⟨σ', s1, s2, s3, s4, s5, s6', s7, s8, s9, s10⟩ := make_c hn0 ht o1 o3 b1 hn b3 b4 hs s6 hm m30 hj j4 hc
  obtain ⟨μ', m1, m2, m3, m4, m5, m6, m7, m8, m9, m10⟩ := make_m hn0 ht o2 o4 hn b5 (by rw [← o6 t (by omega)]; exact hs) s6 (by rw [← (hM.2 _ sk).1]; exact hm) m30 (by rw [← (hG.1 _ sk).1]; exact hj) j4
  have t' : (t + 1) % n0 < n0 := Nat.mod_lt _ (by omega)
  have eF : fltV (σ 0 10) (σ 80 j.toNatClampNeg) (σ 0 9) (σ 59 m.toNatClampNeg + 1) (σ 58 m.toNatClampNeg + 1) (σ 0 13) = fltV (μ 0 30) (μ 16 j.toNatClampNeg) (μ 0 29) (μ 18 m.toNatClampNeg + 1) (μ 17 m.toNatClampNeg + 1) (μ 0 28) := by
    rw [hS.2.1, hS.2.2.1, hS.2.2.2.2.2.1, hG.2.2 _ jk, (hM.1 _ mk).1, (hM.1 _ mk).2.1]
  refine ⟨σ', μ', ⟨rG_c (s1 _ (by omega) (by omega) (by omega) (by omega) (by omega) (by omega)) (s1 _ (by omega) (by omega) (by omega) (by omega) (by omega) (by omega)) (s1 _ (by omega) (by omega) (by omega) (by omega) (by omega) (by omega)) (m1 _ (by omega) (by omega) (by omega) (by omega)) (m1 _ (by omega) (by omega) (by omega) (by omega)) (m1 _ (by omega) (by omega) (by omega) (by omega)) hG, ⟨?_, ?_, ?_, ?_, ?_, ?_, ?_⟩, ⟨fun i hi => ?_, ?_⟩, ?_, ?_, rD_c (fun i _ _ _ _ _ => (s1 _ (by omega) (by omega) (by omega) (by omega) (by omega) (by omega))) (m9 _ (by omega) (by omega) (by omega) (by omega)) (m9 _ (by omega) (by omega) (by omega) (by omega)) (fun i _ _ => (m1 _ (by omega) (by omega) (by omega) (by omega))) h.2.2.2.2.2.1, rA_c (fun i _ _ => (s1 _ (by omega) (by omega) (by omega) (by omega) (by omega) (by omega))) (m9 _ (by omega) (by omega) (by omega) (by omega)) (fun i _ _ => (m1 _ (by omega) (by omega) (by omega) (by omega))) h.2.2.2.2.2.2⟩, by rw [s5, upd_eq], by rw [s2, upd_ne (by omega)], s10, m10⟩
  · rw [(s1 _ (by omega) (by omega) (by omega) (by omega) (by omega) (by omega)), (m1 _ (by omega) (by omega) (by omega) (by omega))]; exact hS.1
  · rw [s9 _ (by omega) (by omega), (m9 _ (by omega) (by omega) (by omega) (by omega))]; exact hS.2.1
  · rw [s8, m5, hS.2.2.1]
  · rw [s9 _ (by omega) (by omega), (m9 _ (by omega) (by omega) (by omega) (by omega))]; exact hS.2.2.2.1
  · rw [s9 _ (by omega) (by omega), (m9 _ (by omega) (by omega) (by omega) (by omega))]; exact hS.2.2.2.2.1
  · rw [s9 _ (by omega) (by omega), (m9 _ (by omega) (by omega) (by omega) (by omega))]; exact hS.2.2.2.2.2.1
  · rw [s7, m6, hS.2.2.2.2.2.2]
  · rw [s3, s4, m2, m3, s1 60 (by omega) (by omega) (by omega) (by omega) (by omega) (by omega), s1 61 (by omega) (by omega) (by omega) (by omega) (by omega) (by omega), s1 62 (by omega) (by omega) (by omega) (by omega) (by omega) (by omega), m1 19 (by omega) (by omega) (by omega) (by omega), m1 20 (by omega) (by omega) (by omega) (by omega), m1 21 (by omega) (by omega) (by omega) (by omega), ← (hM.1 _ mk).1, ← (hM.1 _ mk).2.1]
    exact ⟨b_upd (n := 30) (fun j hj => (hM.1 j hj).1) i hi, b_upd (n := 30) (fun j hj => (hM.1 j hj).2.1) i hi, (hM.1 i hi).2.2⟩
  · rw [s1 63 (by omega) (by omega) (by omega) (by omega) (by omega) (by omega), m1 14 (by omega) (by omega) (by omega) (by omega)]; exact hM.2
  · refine ⟨n0, (t + 1) % n0, hn0, by rw [s2, upd_ne (by omega)]; exact o1, by rw [m9 14 (by omega) (by omega) (by omega) (by omega)]; exact o2, by rw [s2, upd_eq], m8, Or.inl t', ?_, ?_, ?_⟩
    · rw [s1 56 (by omega) (by omega) (by omega) (by omega) (by omega) (by omega), m1 12 (by omega) (by omega) (by omega) (by omega)]; exact o6
    · rw [s1 56 (by omega) (by omega) (by omega) (by omega) (by omega) (by omega)]; exact o7
    · rw [s1 56 (by omega) (by omega) (by omega) (by omega) (by omega) (by omega)]; exact o8
  · refine ⟨e, n1 + 1, b1, by omega, by rw [s5, upd_ne (by omega)]; exact b3, by rw [s5, upd_eq], m7, fun k hk => ?_⟩
    obtain ⟨c0, c1, c2, c3, c4, c5, c6⟩ := s6'
    obtain ⟨d0, d1, d2, d3, d5, d4, d6⟩ := m4
    by_cases hkn : k = n1
    · subst hkn
      rw [← hc, d0, d1, d2, d3, d4, d5, d6, upd_eq, upd_eq, upd_eq, upd_eq, upd_eq, upd_eq, upd_eq]
      have a1 := hG.2.1 _ jk
      have a2 := hS.2.2.2.1
      have a3 := hS.2.2.2.2.1
      have e500 : (500 : Int32).toInt = 500 := by decide
      have w1 : (σ 0 11 + σ 0 12).toInt = (σ 0 11).toInt + (σ 0 12).toInt := ti_add (by omega) (by omega)
      have w2 : (σ 0 11 + σ 0 12 + σ 79 j.toNatClampNeg).toInt = (σ 0 11).toInt + (σ 0 12).toInt + (σ 79 j.toNatClampNeg).toInt := by rw [ti_add (by omega) (by omega), w1]
      have w3 : (σ 0 11 + σ 0 12 + σ 79 j.toNatClampNeg - 500).toInt = (σ 0 11).toInt + (σ 0 12).toInt + (σ 79 j.toNatClampNeg).toInt - 500 := by rw [ti_sub (by rw [w2, e500]; omega) (by rw [w2, e500]; omega), w2, e500]
      refine ⟨by rw [c0]; exact hS.2.2.2.2.2.2, c1, c2, c3, by rw [c5, a2.1, a3.1, a1.1], by rw [c4]; exact a1.1, by rw [c6]; exact eF, by rw [c2]; exact m30, by rw [c6]; exact fltV_in _ _ _ _ _ _, by rw [c4]; exact a1.2.1, by rw [c4]; exact a1.2.2, by rw [c5, w3]; omega, by rw [c5, w3]; omega⟩
    · have hl2 : (e + k) % 12 < 12 := Nat.mod_lt _ (by decide)
      have hne : 66 + (e + k) % 12 ≠ c := by omega
      rw [s1 _ (by omega) (by omega) (by omega) (by omega) (by omega) hne, d0, d1, d2, d3, d4, d5, d6, upd_ne hkn, upd_ne hkn, upd_ne hkn, upd_ne hkn, upd_ne hkn, upd_ne hkn, upd_ne hkn]
      exact b6 k (by omega)
set_option maxHeartbeats 2000000 in
theorem cut_loop {N : Nat} (hN : N ≤ 100) : ∀ (m i : Nat) (σ μ : St) (off : Int32), i + m = N → RR σ μ → ¬ σ 55 2 = 0 → ∃ (r : Int32) (σ' μ' : St), RR σ' μ' ∧ (∀ Q : Int32 → St → Prop, Q r σ' → ∃ f, wl_X9_cut_29 Q (nI N) f σ off (nI i)) ∧ (∀ Q : Int32 → St → Prop, Q r μ' → ∃ f, wl_X10_cut_26 Q (nI N) f μ off (nI i)) := by
  intro m
  induction m with
  | zero =>
    intro i σ μ off hi h hr
    have hle : nI N ≤ nI i := nI_le (by omega) (by omega)
    exact ⟨off, σ, μ, h, fun Q q => ⟨1, ⟨fun _ => q, fun z => absurd hle z⟩⟩, fun Q q => ⟨1, ⟨fun _ => q, fun z => absurd hle z⟩⟩⟩
  | succ m ih =>
    intro i σ μ off hi h hr
    have hlt : ¬ nI N ≤ nI i := nI_ge (by omega) (by omega)
    obtain ⟨e, n, b1, b2, b3, b4, b5, b6⟩ := h.2.2.2.2.1
    by_cases h12 : n = 12
    · subst h12
      have c1 : σ 64 2 = 12 := b4
      have c2 : μ 0 32 = 12 := b5
      obtain ⟨σ1, μ1, g1, g2, g3, g4, g5⟩ := J_take h (by omega) (by omega) b4
      obtain ⟨σ2, μ2, k1, k2, k3, k4, k5⟩ := J_make g1 (by rw [g3]; exact hr) (by omega) g2
      obtain ⟨r, σ', μ', q1, q2, q3⟩ := ih (i + 1) σ2 μ2 (off + 1) (by omega) k1 (by rw [k3, g3]; exact hr)
      refine ⟨r, σ', μ', q1, fun Q q => ?_, fun Q q => ?_⟩
      · obtain ⟨f, hf⟩ := q2 Q q
        refine ⟨f + 1, ⟨fun z => absurd z hlt, fun _ => ⟨fun z => absurd c1 z, fun _ => g4 _ (fun x ex => k4 _ (fun y ey => ?_))⟩⟩⟩
        subst ex; subst ey
        rw [nI_1]
        exact hf
      · obtain ⟨f, hf⟩ := q3 Q q
        refine ⟨f + 1, ⟨fun z => absurd z hlt, fun _ => ⟨fun z => absurd c2 z, fun _ => g5 _ (fun x ex => k5 _ (fun y ey => ?_))⟩⟩⟩
        subst ex; subst ey
        rw [nI_1]
        exact hf
    · have c1 : ¬ σ 64 2 = 12 := fun z => h12 ((nI_eq (a := n) (b := 12) (by omega) (by omega)).mp (b4.symm.trans z))
      have c2 : ¬ μ 0 32 = 12 := fun z => h12 ((nI_eq (a := n) (b := 12) (by omega) (by omega)).mp (b5.symm.trans z))
      obtain ⟨σ2, μ2, k1, k2, k3, k4, k5⟩ := J_make h hr (by omega) b4
      obtain ⟨r, σ', μ', q1, q2, q3⟩ := ih (i + 1) σ2 μ2 off (by omega) k1 (by rw [k3]; exact hr)
      refine ⟨r, σ', μ', q1, fun Q q => ?_, fun Q q => ?_⟩
      · obtain ⟨f, hf⟩ := q2 Q q
        refine ⟨f + 1, ⟨fun z => absurd z hlt, fun _ => ⟨fun _ => k4 _ (fun y ey => ?_), fun z => absurd z c1⟩⟩⟩
        subst ey
        rw [nI_1]
        exact hf
      · obtain ⟨f, hf⟩ := q3 Q q
        refine ⟨f + 1, ⟨fun z => absurd z hlt, fun _ => ⟨fun _ => k5 _ (fun y ey => ?_), fun z => absurd z c2⟩⟩⟩
        subst ey
        rw [nI_1]
        exact hf
theorem drain_loop {N : Nat} (hN : N ≤ 12) : ∀ (m i : Nat) (σ μ : St), i + m = N → RR σ μ → σ 64 2 = nI m → ∃ (σ' μ' : St), RR σ' μ' ∧ (∀ Q : Int32 → St → Prop, Q (nI N) σ' → ∃ f, wl_X9_drain_10 Q (nI N) f σ (nI i)) ∧ (∀ Q : Int32 → St → Prop, Q (nI N) μ' → ∃ f, wl_X10_drain_7 Q (nI N) f μ (nI i)) := by
  intro m
  induction m with
  | zero =>
    intro i σ μ hi h hm
    have hle : nI N ≤ nI i := nI_le (by omega) (by omega)
    exact ⟨σ, μ, h, fun Q q => ⟨1, ⟨fun _ => q, fun z => absurd hle z⟩⟩, fun Q q => ⟨1, ⟨fun _ => q, fun z => absurd hle z⟩⟩⟩
  | succ m ih =>
    intro i σ μ hi h hm
    have hlt : ¬ nI N ≤ nI i := nI_ge (by omega) (by omega)
    obtain ⟨σ1, μ1, g1, g2, g3, g4, g5⟩ := J_take h (by omega) (by omega) hm
    obtain ⟨σ', μ', q1, q2, q3⟩ := ih (i + 1) σ1 μ1 (by omega) g1 g2
    refine ⟨σ', μ', q1, fun Q q => ?_, fun Q q => ?_⟩
    · obtain ⟨f, hf⟩ := q2 Q q
      refine ⟨f + 1, ⟨fun z => absurd z hlt, fun _ => g4 _ (fun x ex => ?_)⟩⟩
      subst ex
      rw [nI_1]
      exact hf
    · obtain ⟨f, hf⟩ := q3 Q q
      refine ⟨f + 1, ⟨fun z => absurd z hlt, fun _ => g5 _ (fun x ex => ?_)⟩⟩
      subst ex
      rw [nI_1]
      exact hf
theorem j_drain {σ μ : St} (h : RR σ μ) : JJ RR (fun Q => wp_X9_drain Q σ) (fun Q => wp_X10_drain Q μ) := by
  obtain ⟨e, n, b1, b2, b3, b4, b5, b6⟩ := h.2.2.2.2.1
  obtain ⟨σ', μ', q1, q2, q3⟩ := drain_loop b2 n 0 σ μ (by omega) h b4
  refine ⟨nI n, σ', μ', q1, fun Q q x ex => ?_, fun Q q x ex => ?_⟩
  · rw [b4] at ex
    subst ex
    exact q2 Q q
  · rw [b5] at ex
    subst ex
    exact q3 Q q
theorem j_cut {σ μ : St} (h : RR σ μ) (a : Int32) : JJ RR (fun Q => wp_X9_cut Q a σ) (fun Q => wp_X10_cut Q a μ) := by
  obtain ⟨n0, t, hn0, o1, o2, _⟩ := h.2.2.2.1
  have eor : σ 55 2 = μ 0 14 := o1.trans o2.symm
  rcases c_btw a 1 100 with ⟨h1, h2, hc, hm⟩ | ⟨ha, hc, hm⟩
  · by_cases hr : σ 55 2 = 0
    · have hr2 : μ 0 14 = 0 := eor.symm.trans hr
      exact ⟨-4, σ, μ, h, fun Q q => hc _ _ ⟨fun _ => ⟨fun z => absurd hr z, fun _ => q⟩, fun z => absurd z (by decide)⟩, fun Q q => hm _ _ ⟨fun _ => ⟨fun z => absurd hr2 z, fun _ => q⟩, fun z => absurd z (by decide)⟩⟩
    · have hr2 : ¬ μ 0 14 = 0 := fun z => hr (eor.trans z)
      have hg := rng h1 h2
      have hg : 1 ≤ a.toInt ∧ a.toInt ≤ 100 := hg
      obtain ⟨N, k1, k2, k3⟩ := nI_ex (x := a) (by omega)
      subst k3
      obtain ⟨r, σ', μ', q1, q2, q3⟩ := cut_loop (N := N) (by omega) N 0 σ μ 0 (by omega) h hr
      exact ⟨r, σ', μ', q1, fun Q q => hc _ _ ⟨fun _ => ⟨fun _ => q2 Q q, fun z => absurd z hr⟩, fun z => absurd z (by decide)⟩, fun Q q => hm _ _ ⟨fun _ => ⟨fun _ => q3 Q q, fun z => absurd z hr2⟩, fun z => absurd z (by decide)⟩⟩
  · exact ⟨-1, σ, μ, h, fun Q q => hc _ _ ⟨fun z => absurd rfl z, fun _ => q⟩, fun Q q => hm _ _ ⟨fun z => absurd rfl z, fun _ => q⟩⟩
