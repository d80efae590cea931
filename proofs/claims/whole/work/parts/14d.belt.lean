/-! a bottle is made -/
def fltV (mx cj gl du us la : Int32) : Int32 := if mx ≤ 0 then (if cj = gl then (if du ≤ (8 : Int32) then (if us ≤ la then 0 else 4) else 3) else 2) else 1
def mixV (x : Int32) : Int32 := if x ≤ 0 then x else x - 1
theorem fltV_in (mx cj gl du us la : Int32) : vp_in (fltV mx cj gl du us la) 5 := by
  unfold fltV
  split
  · split
    · split
      · split
        · unfold vp_in; decide
        · unfold vp_in; decide
      · unfold vp_in; decide
    · unfold vp_in; decide
  · unfold vp_in; decide
theorem flt_c {τ : St} {v1 v2 : Int32} (h1 : vp_in v1 4) (h2 : vp_in v2 30) {Q : Int32 → St → Prop} (q : Q (fltV (τ 0 10) (τ 80 v1.toNatClampNeg) (τ 0 9) (τ 59 v2.toNatClampNeg) (τ 58 v2.toNatClampNeg) (τ 0 13)) τ) : wp_X9_faultOfCut Q v1 v2 τ := by
  unfold fltV at q
  refine ⟨fun a => ⟨h1, fun b => ⟨h2, fun c => ⟨h2, fun d => ?_, fun d => ?_⟩, fun c => ?_⟩, fun b => ?_⟩, fun a => ?_⟩
  · rw [if_pos a, if_pos b, if_pos c, if_pos d] at q; exact q
  · rw [if_pos a, if_pos b, if_pos c, if_neg d] at q; exact q
  · rw [if_pos a, if_pos b, if_neg c] at q; exact q
  · rw [if_pos a, if_neg b] at q; exact q
  · rw [if_neg a] at q; exact q
theorem flt_m {A B : Prop} (hA : A) (hB : B) {P : Int32 → Prop} {mx cj gl du us la : Int32} (q : P (fltV mx cj gl du us la)) : (mx ≤ 0 → (A ∧ ((gl = cj → (B ∧ ((du ≤ (8 : Int32) → (B ∧ ((us ≤ la → P 0) ∧ (¬ us ≤ la → P 4)))) ∧ (¬ du ≤ (8 : Int32) → P 3)))) ∧ (¬ gl = cj → P 2)))) ∧ (¬ mx ≤ 0 → P 1) := by
  unfold fltV at q
  refine ⟨fun a => ⟨hA, fun b => ⟨hB, fun c => ⟨hB, fun d => ?_, fun d => ?_⟩, fun c => ?_⟩, fun b => ?_⟩, fun a => ?_⟩
  · rw [if_pos a, if_pos b.symm, if_pos c, if_pos d] at q; exact q
  · rw [if_pos a, if_pos b.symm, if_pos c, if_neg d] at q; exact q
  · rw [if_pos a, if_pos b.symm, if_neg c] at q; exact q
  · rw [if_pos a, if_neg (fun z => b z.symm)] at q; exact q
  · rw [if_neg a] at q; exact q
set_option maxHeartbeats 4000000 in
theorem make_c {σ : St} {n0 t e n : Nat} (hn0 : n0 ≤ 6) (ht : t < n0) (o1 : σ 55 2 = nI n0) (o3 : σ 55 1 = nI t) (he : e < 12) (hn : n < 12) (b3 : σ 64 1 = nI e) (b4 : σ 64 2 = nI n) {s m j : Int32} (hs : σ 56 t = s) (s6 : vp_in s 6) (hm : σ 63 s.toNatClampNeg = m) (m30 : vp_in m 30) (hj : σ 78 s.toNatClampNeg = j) (j4 : vp_in j 4) {c : Nat} (hc : c = 66 + (e + n) % 12) : ∃ σ' : St,
    (∀ i, i ≠ 0 → i ≠ 55 → i ≠ 58 → i ≠ 59 → i ≠ 64 → i ≠ c → σ' i = σ i) ∧ σ' 55 = upd (σ 55) 1 (nI ((t + 1) % n0)) ∧ σ' 58 = upd (σ 58) m.toNatClampNeg (σ 58 m.toNatClampNeg + 1) ∧ σ' 59 = upd (σ 59) m.toNatClampNeg (σ 59 m.toNatClampNeg + 1) ∧ σ' 64 = upd (σ 64) 2 (nI (n + 1)) ∧
    (σ' c 0 = σ 0 14 ∧ σ' c 1 = s ∧ σ' c 2 = m ∧ σ' c 3 = j ∧ σ' c 4 = σ 79 j.toNatClampNeg ∧ σ' c 5 = ((σ 0 11 + σ 0 12) + σ 79 j.toNatClampNeg) - 500 ∧ σ' c 6 = fltV (σ 0 10) (σ 80 j.toNatClampNeg) (σ 0 9) (σ 59 m.toNatClampNeg + 1) (σ 58 m.toNatClampNeg + 1) (σ 0 13)) ∧
    σ' 0 14 = σ 0 14 + 1 ∧ σ' 0 10 = mixV (σ 0 10) ∧ (∀ i, i ≠ 10 → i ≠ 14 → σ' 0 i = σ 0 i) ∧ ∀ Q : St → Prop, Q σ' → wp_X9_makeBottle Q σ := by
  have hl : (e + n) % 12 < 12 := Nat.mod_lt _ (by decide)
  have ct : (σ 55 1).toNatClampNeg = t := by rw [o3]; exact nI_clamp (by omega)
  have hin : vp_in (σ 55 1) 6 := by rw [o3]; exact vp_in_nI (by omega) (by decide)
  have hne : ¬ σ 55 2 = 0 := by rw [o1]; exact nI_ne0 (by omega) (by omega)
  obtain ⟨A1, h1⟩ : ∃ z, z = up2 σ 55 1 (nI ((t + 1) % n0)) := ⟨_, rfl⟩
  have hpass : ∀ Q : St → Prop, Q A1 → wp_X6_pass Q σ := by
    intro Q q
    refine ⟨fun z x ex => ?_, fun z x ex => ?_⟩
    · rw [o1, o3, nI_1, nI_leI (by omega) (by omega)] at z
      have e0 : (t + 1) % n0 = 0 := by
        have : t + 1 = n0 := by omega
        rw [this, Nat.mod_self]
      rw [e0] at h1
      have : x = A1 := ex.trans h1.symm
      rw [this]; exact q
    · rw [o1, o3, nI_1, nI_leI (by omega) (by omega)] at z
      rw [Nat.mod_eq_of_lt (by omega)] at h1
      rw [o3, nI_1] at ex
      have : x = A1 := ex.trans h1.symm
      rw [this]; exact q
  obtain ⟨A2, h2⟩ : ∃ z, z = up2 A1 58 m.toNatClampNeg (σ 58 m.toNatClampNeg + 1) := ⟨_, rfl⟩
  obtain ⟨A3, h3⟩ : ∃ z, z = up2 A2 59 m.toNatClampNeg (σ 59 m.toNatClampNeg + 1) := ⟨_, rfl⟩
  obtain ⟨A4, h4⟩ : ∃ z, z = up2 A3 64 2 (nI (n + 1)) := ⟨_, rfl⟩
  obtain ⟨A5, h5⟩ : ∃ z, z = up2 A4 c 0 (σ 0 14) := ⟨_, rfl⟩
  obtain ⟨A6, h6⟩ : ∃ z, z = up2 A5 c 1 s := ⟨_, rfl⟩
  obtain ⟨A7, h7⟩ : ∃ z, z = up2 A6 c 2 m := ⟨_, rfl⟩
  obtain ⟨A8, h8⟩ : ∃ z, z = up2 A7 c 3 j := ⟨_, rfl⟩
  obtain ⟨A9, h9⟩ : ∃ z, z = up2 A8 c 4 (σ 79 j.toNatClampNeg) := ⟨_, rfl⟩
  obtain ⟨A10, h10⟩ : ∃ z, z = up2 A9 c 5 (((σ 0 11 + σ 0 12) + σ 79 j.toNatClampNeg) - 500) := ⟨_, rfl⟩
  obtain ⟨A11, h11⟩ : ∃ z, z = up2 A10 c 6 (fltV (σ 0 10) (σ 80 j.toNatClampNeg) (σ 0 9) (σ 59 m.toNatClampNeg + 1) (σ 58 m.toNatClampNeg + 1) (σ 0 13)) := ⟨_, rfl⟩
  obtain ⟨A12, h12⟩ : ∃ z, z = up2 A11 0 14 (σ 0 14 + 1) := ⟨_, rfl⟩
  have R1 : ∀ i, i ≠ 55 → A1 i = σ i := fun i hi => by rw [h1, up2_ne hi]
  have R2 : ∀ i, i ≠ 55 → i ≠ 58 → A2 i = σ i := fun i a b => by rw [h2, up2_ne b, R1 i a]
  have R3 : ∀ i, i ≠ 55 → i ≠ 58 → i ≠ 59 → A3 i = σ i := fun i a b d => by rw [h3, up2_ne d, R2 i a b]
  have R4 : ∀ i, i ≠ 55 → i ≠ 58 → i ≠ 59 → i ≠ 64 → A4 i = σ i := fun i a b d f => by rw [h4, up2_ne f, R3 i a b d]
  have C5 : ∀ i, i ≠ c → A5 i = A4 i := fun i z => by rw [h5, up2_ne z]
  have C8 : ∀ i, i ≠ c → A8 i = A4 i := fun i z => by rw [h8, up2_ne z, h7, up2_ne z, h6, up2_ne z, C5 i z]
  have C9 : ∀ i, i ≠ c → A9 i = A4 i := fun i z => by rw [h9, up2_ne z, C8 i z]
  have C10 : ∀ i, i ≠ c → A10 i = A4 i := fun i z => by rw [h10, up2_ne z, C9 i z]
  have C11 : ∀ i, i ≠ c → A11 i = A4 i := fun i z => by rw [h11, up2_ne z, C10 i z]
  have r0 : A4 0 = σ 0 := R4 0 (by omega) (by omega) (by omega) (by omega)
  have r58 : A4 58 = upd (σ 58) m.toNatClampNeg (σ 58 m.toNatClampNeg + 1) := by rw [h4, up2_ne (by omega), h3, up2_ne (by omega), h2, up2_eq, R1 58 (by omega)]
  have r59 : A4 59 = upd (σ 59) m.toNatClampNeg (σ 59 m.toNatClampNeg + 1) := by rw [h4, up2_ne (by omega), h3, up2_eq, R2 59 (by omega) (by omega)]
  have r64 : A4 64 = upd (σ 64) 2 (nI (n + 1)) := by rw [h4, up2_eq, R3 64 (by omega) (by omega) (by omega)]
  have r55 : A4 55 = upd (σ 55) 1 (nI ((t + 1) % n0)) := by rw [h4, up2_ne (by omega), h3, up2_ne (by omega), h2, up2_ne (by omega), h1, up2_eq]
  have cc : A11 c = upd (upd (upd (upd (upd (upd (upd (A4 c) 0 (σ 0 14)) 1 s) 2 m) 3 j) 4 (σ 79 j.toNatClampNeg)) 5 (((σ 0 11 + σ 0 12) + σ 79 j.toNatClampNeg) - 500)) 6 (fltV (σ 0 10) (σ 80 j.toNatClampNeg) (σ 0 9) (σ 59 m.toNatClampNeg + 1) (σ 58 m.toNatClampNeg + 1) (σ 0 13)) := by
    rw [h11, up2_eq, h10, up2_eq, h9, up2_eq, h8, up2_eq, h7, up2_eq, h6, up2_eq, h5, up2_eq]
  have a0 : A12 0 = upd (σ 0) 14 (σ 0 14 + 1) := by rw [h12, up2_eq, C11 0 (by omega), r0]
  have start : ∀ Q : St → Prop, ((A12 0 10) ≤ 0 → (Q A12)) ∧ (¬ (A12 0 10) ≤ 0 → (∀ σ30 : St, σ30 = up2 A12 0 10 ((A12 0 10) - (1 : Int32)) → Q σ30)) → wp_X9_makeBottle Q σ := by
    intro Q q
    refine ⟨fun _ => ⟨hin, ?_⟩, fun z => absurd z hne⟩
    rw [ct, hs]
    refine hpass _ ⟨s6, fun x6 e6 => ⟨s6, fun x8 e8 => ?_⟩⟩
    rw [R1 63 (by omega), hm] at e6
    rw [R1 78 (by omega), hj] at e8
    have e6 := e6.symm
    have e8 := e8.symm
    subst e6; subst e8
    refine ⟨m30, m30, fun x ex => ?_⟩
    rw [R1 58 (by omega)] at ex
    have ex := (ex.trans h2.symm).symm
    subst ex
    refine ⟨m30, m30, fun x ex => ?_⟩
    rw [R2 59 (by omega) (by omega)] at ex
    have ex := (ex.trans h3.symm).symm
    subst ex
    refine fe_c (k := n) he (by omega) (by rw [R3 64 (by omega) (by omega) (by omega)]; exact b3) (by rw [R3 64 (by omega) (by omega) (by omega)]; exact b4) ?_
    rw [← hc]
    have kd : kcL.getD c 999 = 1 := by rw [hc]; exact kc_ringN _ hl
    refine ⟨kd, fun x ex => ?_⟩
    rw [R3 64 (by omega) (by omega) (by omega), b4, nI_1] at ex
    have ex := (ex.trans h4.symm).symm
    subst ex
    refine ⟨kd, fun x ex => ?_⟩
    rw [r0] at ex
    have ex := (ex.trans h5.symm).symm
    subst ex
    intro x ex
    have ex := (ex.trans h6.symm).symm
    subst ex
    intro x ex
    have ex := (ex.trans h7.symm).symm
    subst ex
    intro x ex
    have ex := (ex.trans h8.symm).symm
    subst ex
    refine ⟨j4, fun x ex => ?_⟩
    rw [C8 79 (by omega), R4 79 (by omega) (by omega) (by omega) (by omega)] at ex
    have ex := (ex.trans h9.symm).symm
    subst ex
    intro x ex
    have e94 : A9 c 4 = σ 79 j.toNatClampNeg := by rw [h9, up2_eq, upd_eq]
    rw [C9 0 (by omega), r0, e94] at ex
    have ex := (ex.trans h10.symm).symm
    subst ex
    refine flt_c j4 m30 ?_
    rw [C10 0 (by omega), C10 80 (by omega), C10 59 (by omega), C10 58 (by omega), r0, r58, r59, R4 80 (by omega) (by omega) (by omega) (by omega), upd_eq, upd_eq]
    intro x ex
    have ex := (ex.trans h11.symm).symm
    subst ex
    intro x ex
    rw [C11 0 (by omega), r0] at ex
    have ex := (ex.trans h12.symm).symm
    subst ex
    exact q
  have a010 : A12 0 10 = σ 0 10 := by rw [a0, upd_ne (by omega)]
  have rest : ∀ i, i ≠ 0 → A12 i = A11 i := fun i hi => by rw [h12, up2_ne hi]
  by_cases hx : σ 0 10 ≤ 0
  · refine ⟨A12, fun i i0 i1 i2 i3 i4 i5 => by rw [rest i i0, C11 i i5, R4 i i1 i2 i3 i4], by rw [rest 55 (by omega), C11 55 (by omega), r55], by rw [rest 58 (by omega), C11 58 (by omega), r58], by rw [rest 59 (by omega), C11 59 (by omega), r59], by rw [rest 64 (by omega), C11 64 (by omega), r64], ?_, by rw [a0, upd_eq], by rw [a010, mixV, if_pos hx], fun i i1 i2 => by rw [a0, upd_ne i2], fun Q q => start Q ⟨fun _ => q, fun z => absurd (by rw [a010]; exact hx) z⟩⟩
    rw [rest c (by omega), cc]
    exact ⟨rfl, rfl, rfl, rfl, rfl, rfl, rfl⟩
  · refine ⟨up2 A12 0 10 (A12 0 10 - 1), fun i i0 i1 i2 i3 i4 i5 => by rw [up2_ne i0, rest i i0, C11 i i5, R4 i i1 i2 i3 i4], by rw [up2_ne (by omega), rest 55 (by omega), C11 55 (by omega), r55], by rw [up2_ne (by omega), rest 58 (by omega), C11 58 (by omega), r58], by rw [up2_ne (by omega), rest 59 (by omega), C11 59 (by omega), r59], by rw [up2_ne (by omega), rest 64 (by omega), C11 64 (by omega), r64], ?_, by rw [up2_eq, upd_ne (by omega), a0, upd_eq], by rw [up2_eq, upd_eq, a010, mixV, if_neg hx], fun i i1 i2 => by rw [up2_eq, upd_ne i1, a0, upd_ne i2], fun Q q => start Q ⟨fun z => absurd (by rw [a010] at z; exact z) hx, fun _ x ex => by subst ex; exact q⟩⟩
    rw [up2_ne (by omega), rest c (by omega), cc]
    exact ⟨rfl, rfl, rfl, rfl, rfl, rfl, rfl⟩
set_option maxHeartbeats 4000000 in
theorem make_m {μ : St} {n0 t n : Nat} (hn0 : n0 ≤ 6) (ht : t < n0) (o2 : μ 0 14 = nI n0) (o4 : μ 0 16 = nI t) (hn : n < 12) (b5 : μ 0 32 = nI n) {s m j : Int32} (hs : μ 12 t = s) (s6 : vp_in s 6) (hm : μ 14 s.toNatClampNeg = m) (m30 : vp_in m 30) (hj : μ 13 s.toNatClampNeg = j) (j4 : vp_in j 4) : ∃ μ' : St,
    (∀ i, i ≠ 0 → i ≠ 17 → i ≠ 18 → (i < 22 ∨ 28 < i) → μ' i = μ i) ∧ μ' 17 = upd (μ 17) m.toNatClampNeg (μ 17 m.toNatClampNeg + 1) ∧ μ' 18 = upd (μ 18) m.toNatClampNeg (μ 18 m.toNatClampNeg + 1) ∧
    (μ' 22 = upd (μ 22) n (μ 0 31) ∧ μ' 23 = upd (μ 23) n s ∧ μ' 24 = upd (μ 24) n m ∧ μ' 25 = upd (μ 25) n j ∧ μ' 26 = upd (μ 26) n (((μ 0 26 + μ 0 27) + μ 15 j.toNatClampNeg) - 500) ∧ μ' 27 = upd (μ 27) n (μ 15 j.toNatClampNeg) ∧ μ' 28 = upd (μ 28) n (fltV (μ 0 30) (μ 16 j.toNatClampNeg) (μ 0 29) (μ 18 m.toNatClampNeg + 1) (μ 17 m.toNatClampNeg + 1) (μ 0 28))) ∧
    μ' 0 30 = mixV (μ 0 30) ∧ μ' 0 31 = μ 0 31 + 1 ∧ μ' 0 32 = nI (n + 1) ∧ μ' 0 16 = nI ((t + 1) % n0) ∧ (∀ i, i ≠ 16 → i ≠ 30 → i ≠ 31 → i ≠ 32 → μ' 0 i = μ 0 i) ∧ ∀ Q : St → Prop, Q μ' → wp_X10_cutOne Q μ := by
  have ct : (μ 0 16).toNatClampNeg = t := by rw [o4]; exact nI_clamp (by omega)
  have hin : vp_in (μ 0 16) 6 := by rw [o4]; exact vp_in_nI (by omega) (by decide)
  have n12 : vp_in (μ 0 32) 12 := by rw [b5]; exact vp_in_nI hn (by decide)
  have cn : (μ 0 32).toNatClampNeg = n := by rw [b5]; exact nI_clamp (by omega)
  obtain ⟨F, hF⟩ : ∃ F, F = fltV (μ 0 30) (μ 16 j.toNatClampNeg) (μ 0 29) (μ 18 m.toNatClampNeg + 1) (μ 17 m.toNatClampNeg + 1) (μ 0 28) := ⟨_, rfl⟩
  obtain ⟨B, hB⟩ : ∃ B, B = up2 (up2 (up2 (up2 (up2 (up2 (up2 (up2 μ 17 m.toNatClampNeg (μ 17 m.toNatClampNeg + 1)) 18 m.toNatClampNeg (μ 18 m.toNatClampNeg + 1)) 22 n (μ 0 31)) 23 n s) 24 n m) 25 n j) 26 n (((μ 0 26 + μ 0 27) + μ 15 j.toNatClampNeg) - 500)) 27 n (μ 15 j.toNatClampNeg) := ⟨_, rfl⟩
  obtain ⟨D, hD⟩ : ∃ D, D = up2 (up2 (up2 (up2 (up2 B 28 n F) 0 30 (mixV (μ 0 30))) 0 32 (nI (n + 1))) 0 31 (μ 0 31 + 1)) 0 16 (nI ((t + 1) % n0)) := ⟨_, rfl⟩
  have Bi : ∀ i, i ≠ 17 → i ≠ 18 → (i < 22 ∨ 27 < i) → B i = μ i := fun i a b d => by rw [hB, up2_ne (by omega), up2_ne (by omega), up2_ne (by omega), up2_ne (by omega), up2_ne (by omega), up2_ne (by omega), up2_ne b, up2_ne a]
  have Di : ∀ i, i ≠ 0 → i ≠ 28 → D i = B i := fun i a b => by rw [hD, up2_ne a, up2_ne a, up2_ne a, up2_ne a, up2_ne b]
  have D0 : D 0 = upd (upd (upd (upd (μ 0) 30 (mixV (μ 0 30))) 32 (nI (n + 1))) 31 (μ 0 31 + 1)) 16 (nI ((t + 1) % n0)) := by
    rw [hD, up2_eq, up2_eq, up2_eq, up2_eq, up2_ne (by omega), Bi 0 (by omega) (by omega) (by omega)]
  have fin : ∀ Q : St → Prop, Q D → ∀ z0 : Int32, μ 0 30 - z0 = mixV (μ 0 30) → wb_X10_cutOne_210 Q z0 (μ 0 30) (up2 B 28 n F) := by
    intro Q q z0 hz x ex
    subst ex
    intro x ex
    subst ex
    intro x ex
    subst ex
    have e14 : (up2 (up2 (up2 (up2 B 28 n F) 0 30 (μ 0 30 - z0)) 0 32 ((up2 (up2 B 28 n F) 0 30 (μ 0 30 - z0)) 0 32 + 1)) 0 31 ((up2 (up2 (up2 B 28 n F) 0 30 (μ 0 30 - z0)) 0 32 ((up2 (up2 B 28 n F) 0 30 (μ 0 30 - z0)) 0 32 + 1)) 0 31 + 1)) 0 14 = nI n0 := by
      rw [up2_eq, upd_ne (by omega), up2_eq, upd_ne (by omega), up2_eq, upd_ne (by omega), up2_ne (by omega), Bi 0 (by omega) (by omega) (by omega)]
      exact o2
    refine ⟨by rw [e14]; exact nI_ne0 (by omega) (by omega), fun x ex => ?_⟩
    have e16 : (up2 (up2 (up2 (up2 B 28 n F) 0 30 (μ 0 30 - z0)) 0 32 ((up2 (up2 B 28 n F) 0 30 (μ 0 30 - z0)) 0 32 + 1)) 0 31 ((up2 (up2 (up2 B 28 n F) 0 30 (μ 0 30 - z0)) 0 32 ((up2 (up2 B 28 n F) 0 30 (μ 0 30 - z0)) 0 32 + 1)) 0 31 + 1)) 0 16 = nI t := by
      rw [up2_eq, upd_ne (by omega), up2_eq, upd_ne (by omega), up2_eq, upd_ne (by omega), up2_ne (by omega), Bi 0 (by omega) (by omega) (by omega)]
      exact o4
    have e31 : (up2 (up2 (up2 B 28 n F) 0 30 (μ 0 30 - z0)) 0 32 ((up2 (up2 B 28 n F) 0 30 (μ 0 30 - z0)) 0 32 + 1)) 0 31 = μ 0 31 := by
      rw [up2_eq, upd_ne (by omega), up2_eq, upd_ne (by omega), up2_ne (by omega), Bi 0 (by omega) (by omega) (by omega)]
    have e32 : (up2 (up2 B 28 n F) 0 30 (μ 0 30 - z0)) 0 32 = nI n := by
      rw [up2_eq, upd_ne (by omega), up2_ne (by omega), Bi 0 (by omega) (by omega) (by omega)]
      exact b5
    rw [e14, e16, e31, e32, nI_1, nI_1, jrem_nI (by omega) (by omega) (by omega), hz] at ex
    have ex := (ex.trans hD.symm).symm
    subst ex
    exact q
  have pass : ∀ Q : St → Prop, Q D → wb_X10_cutOne_192 Q F (μ 0 32) B := by
    intro Q q
    refine ⟨n12, fun x ex => ?_⟩
    rw [cn] at ex
    subst ex
    have e30 : (up2 B 28 n F) 0 30 = μ 0 30 := by rw [up2_ne (by omega), Bi 0 (by omega) (by omega) (by omega)]
    rw [e30]
    refine ⟨fun z => fin Q q 0 ?_, fun z => fin Q q 1 ?_⟩
    · rw [mixV, if_pos z, Int32.sub_zero]
    · rw [mixV, if_neg z]
  refine ⟨D, fun i i0 i1 i2 i3 => by rw [Di i i0 (by omega), Bi i i1 i2 (by omega)], by rw [Di 17 (by omega) (by omega), hB]; rfl, by rw [Di 18 (by omega) (by omega), hB]; rfl, ⟨by rw [Di 22 (by omega) (by omega), hB]; rfl, by rw [Di 23 (by omega) (by omega), hB]; rfl, by rw [Di 24 (by omega) (by omega), hB]; rfl, by rw [Di 25 (by omega) (by omega), hB]; rfl, by rw [Di 26 (by omega) (by omega), hB]; rfl, by rw [Di 27 (by omega) (by omega), hB]; rfl, ?_⟩, by rw [D0, upd_ne (by omega), upd_ne (by omega), upd_ne (by omega), upd_eq], by rw [D0, upd_ne (by omega), upd_eq], by rw [D0, upd_ne (by omega), upd_ne (by omega), upd_eq], by rw [D0, upd_eq], fun i a b d f => by rw [D0, upd_ne a, upd_ne d, upd_ne f, upd_ne b], fun Q q => ?_⟩
  · rw [hD, up2_ne (by omega), up2_ne (by omega), up2_ne (by omega), up2_ne (by omega), up2_eq, Bi 28 (by omega) (by omega) (by omega), hF]
  · refine ⟨hin, fun x2 e2 => ?_⟩
    rw [ct, hs] at e2
    have e2 := e2.symm
    subst e2
    refine ⟨s6, fun x4 e4 => ⟨s6, fun x6 e6 => ?_⟩⟩
    rw [hm] at e4
    rw [hj] at e6
    have e4 := e4.symm
    have e6 := e6.symm
    subst e4; subst e6
    refine ⟨m30, m30, fun x ex => ?_⟩
    subst ex
    refine ⟨m30, m30, fun x ex => ?_⟩
    subst ex
    intro x13 e13
    have e13 : x13 = μ 0 32 := e13
    subst e13
    rw [cn]
    refine ⟨n12, fun x ex => ?_⟩
    subst ex
    refine ⟨n12, fun x ex => ?_⟩
    subst ex
    refine ⟨n12, fun x ex => ?_⟩
    subst ex
    refine ⟨n12, fun x ex => ?_⟩
    subst ex
    refine ⟨j4, n12, fun x ex => ?_⟩
    subst ex
    refine ⟨j4, n12, fun x ex => ?_⟩
    have ex : B = x := (ex.trans hB.symm).symm
    subst ex
    have z0 : B 0 = μ 0 := Bi 0 (by omega) (by omega) (by omega)
    have z16 : B 16 = μ 16 := Bi 16 (by omega) (by omega) (by omega)
    have z18 : B 18 m.toNatClampNeg = μ 18 m.toNatClampNeg + 1 := by
      have : B 18 = upd (μ 18) m.toNatClampNeg (μ 18 m.toNatClampNeg + 1) := by rw [hB]; rfl
      rw [this, upd_eq]
    have z17 : B 17 m.toNatClampNeg = μ 17 m.toNatClampNeg + 1 := by
      have : B 17 = upd (μ 17) m.toNatClampNeg (μ 17 m.toNatClampNeg + 1) := by rw [hB]; rfl
      rw [this, upd_eq]
    rw [z0, z16, z17, z18]
    refine flt_m (P := fun z => wb_X10_cutOne_192 Q z (μ 0 32) B) j4 m30 ?_
    have := pass Q q
    rw [hF] at this
    exact this
