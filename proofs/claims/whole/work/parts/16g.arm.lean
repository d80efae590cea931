/-! arms: the call arm -/
theorem swap2 {σ : St} {k : Nat} {x y : Int32} (hx : σ 41 1 = x) (hy : σ 42 k = y) : up2 (up2 (up2 (up2 σ 42 k x) 41 1 y) 42 k y) 41 1 x = σ := by
  funext c j
  unfold up2 upd
  by_cases h1 : c = 41
  · subst h1
    by_cases h2 : j = 1
    · subst h2; simp [hx]
    · simp [h2]
  · by_cases h3 : c = 42
    · subst h3
      by_cases h2 : j = k
      · subst h2; simp [hy]
      · simp [h2]
    · simp [h1, h3]
/-- the reference, behind the loop that takes what is told -/
def armEnd (Q : Int32 → St → Prop) (v1 v2 : Int32) (σ : St) : Prop :=
  vp_in v1 3 ∧ (∀ σ9 : St, σ9 = up2 σ 7 v1.toNatClampNeg (σ 0 11) →
  wp_X10_areClear (fun r10 σ11 =>
  (¬ r10 = 0 → (∀ σ13 : St, σ13 = up2 σ11 0 11 (0 : Int32) →
  vp_in v1 3 ∧ (Q (σ13 7 v1.toNatClampNeg) σ13))) ∧
  (r10 = 0 → (vp_in v1 3 ∧ (∀ σ16 : St, σ16 = up2 σ11 7 v1.toNatClampNeg v2 →
  ∃ n, wl_X10_arm_134 Q v1 n σ16 (0 : Int32))))) σ9)
set_option maxHeartbeats 1000000 in
theorem take_loop {a : Nat} (ha : a < 3) : ∀ (m i : Nat) (μ : St), i + m = 6 → ∃ μ' : St, (∀ c, c ≠ 8 → c ≠ 9 → c ≠ 30 → c ≠ 31 → μ' c = μ c) ∧ (∀ j, i ≤ j → j < 6 → μ' 30 j = μ 8 (6 * a + j) ∧ μ' 31 j = μ 9 (6 * a + j)) ∧ (∀ j, j < i → μ' 30 j = μ 30 j ∧ μ' 31 j = μ 31 j) ∧
    (∀ q, μ' 8 q = if 6 * a + i ≤ q ∧ q < 6 * a + 6 then μ 10 (q - 6 * a) else μ 8 q) ∧ (∀ q, μ' 9 q = if 6 * a + i ≤ q ∧ q < 6 * a + 6 then μ 11 (q - 6 * a) else μ 9 q) ∧ ∀ (Q : Int32 → St → Prop) (v2 : Int32), armEnd Q (nI a) v2 μ' → ∃ fu, wl_X10_arm_28 Q (nI a) v2 fu μ (nI i) := by
  intro m
  induction m with
  | zero =>
    intro i μ hi
    have hle : (6 : Int32) ≤ nI i := nI_le (a := 6) (by omega) (by omega)
    exact ⟨μ, fun _ _ _ _ _ => rfl, fun j h1 h2 => absurd h1 (by omega), fun _ _ => ⟨rfl, rfl⟩, fun q => by rw [if_neg (by omega)], fun q => by rw [if_neg (by omega)], fun Q v2 q => ⟨1, ⟨fun _ => q, fun z => absurd hle z⟩⟩⟩
  | succ m ih =>
    intro i μ hi
    have hlt : ¬ (6 : Int32) ≤ nI i := nI_ge (b := 6) (by omega) (by omega)
    have ci : (nI i).toNatClampNeg = i := nI_clamp (by omega)
    have vi : vp_in (nI i) 6 := vp_in_nI (by omega) (by decide)
    obtain ⟨vx, cx⟩ := idx6 (k := i) ha (by omega)
    -- the state behind one slot
    have e30 : ∀ w x y z : Int32, up2 (up2 (up2 (up2 μ 30 i w) 31 i x) 8 (6 * a + i) y) 9 (6 * a + i) z 30 = upd (μ 30) i w := fun _ _ _ _ => rfl
    have e31 : ∀ w x y z : Int32, up2 (up2 (up2 (up2 μ 30 i w) 31 i x) 8 (6 * a + i) y) 9 (6 * a + i) z 31 = upd (μ 31) i x := fun _ _ _ _ => rfl
    have e8 : ∀ w x y z : Int32, up2 (up2 (up2 (up2 μ 30 i w) 31 i x) 8 (6 * a + i) y) 9 (6 * a + i) z 8 = upd (μ 8) (6 * a + i) y := fun _ _ _ _ => rfl
    have e9 : ∀ w x y z : Int32, up2 (up2 (up2 (up2 μ 30 i w) 31 i x) 8 (6 * a + i) y) 9 (6 * a + i) z 9 = upd (μ 9) (6 * a + i) z := fun _ _ _ _ => rfl
    obtain ⟨μ', g1, g2, g3, g4, g5, g6⟩ := ih (i + 1) (up2 (up2 (up2 (up2 μ 30 i (μ 8 (6 * a + i))) 31 i (μ 9 (6 * a + i))) 8 (6 * a + i) (μ 10 i)) 9 (6 * a + i) (μ 11 i)) (by omega)
    refine ⟨μ', fun c c1 c2 c3 c4 => by rw [g1 c c1 c2 c3 c4, up2_ne c2, up2_ne c1, up2_ne c4, up2_ne c3], fun j h1 h2 => ?_, fun j h1 => ?_, fun q => ?_, fun q => ?_, fun Q v2 q => ?_⟩
    · by_cases z : j = i
      · rw [z, (g3 i (by omega)).1, (g3 i (by omega)).2, e30, e31, upd_eq, upd_eq]
        exact ⟨rfl, rfl⟩
      · rw [(g2 j (by omega) h2).1, (g2 j (by omega) h2).2, e8, e9, upd_ne (by omega), upd_ne (by omega)]
        exact ⟨rfl, rfl⟩
    · rw [(g3 j (by omega)).1, (g3 j (by omega)).2, e30, e31, upd_ne (by omega), upd_ne (by omega)]
      exact ⟨rfl, rfl⟩
    · rw [g4 q, e8]
      by_cases z : 6 * a + (i + 1) ≤ q ∧ q < 6 * a + 6
      · rw [if_pos z, if_pos (by omega)]; rfl
      · rw [if_neg z]
        by_cases y : q = 6 * a + i
        · rw [y, upd_eq, if_pos (by omega), show 6 * a + i - 6 * a = i from by omega]
        · rw [upd_ne y, if_neg (by omega)]
    · rw [g5 q, e9]
      by_cases z : 6 * a + (i + 1) ≤ q ∧ q < 6 * a + 6
      · rw [if_pos z, if_pos (by omega)]; rfl
      · rw [if_neg z]
        by_cases y : q = 6 * a + i
        · rw [y, upd_eq, if_pos (by omega), show 6 * a + i - 6 * a = i from by omega]
        · rw [upd_ne y, if_neg (by omega)]
    · obtain ⟨fu, hfu⟩ := g6 Q v2 q
      refine ⟨fu + 1, ⟨fun z => absurd z hlt, fun _ => ⟨vx, vi, fun s1 es1 => ⟨vx, vi, fun s2 es2 => ⟨vi, vx, fun s3 es3 => ⟨vi, vx, fun s4 es4 x ex => ?_⟩⟩⟩⟩⟩⟩
      subst ex; subst es4; subst es3; subst es2; subst es1
      rw [ci, cx, nI_1]
      exact hfu
set_option maxHeartbeats 1000000 in
theorem back_loop {a : Nat} (ha : a < 3) : ∀ (m i : Nat) (μ : St), i + m = 6 → ∃ μ' : St, (∀ c, c ≠ 8 → c ≠ 9 → μ' c = μ c) ∧
    (∀ q, μ' 8 q = if 6 * a + i ≤ q ∧ q < 6 * a + 6 then μ 30 (q - 6 * a) else μ 8 q) ∧ (∀ q, μ' 9 q = if 6 * a + i ≤ q ∧ q < 6 * a + 6 then μ 31 (q - 6 * a) else μ 9 q) ∧ ∀ (Q : Int32 → St → Prop), Q (-5) μ' → ∃ fu, wl_X10_arm_134 Q (nI a) fu μ (nI i) := by
  intro m
  induction m with
  | zero =>
    intro i μ hi
    have hle : (6 : Int32) ≤ nI i := nI_le (a := 6) (by omega) (by omega)
    exact ⟨μ, fun _ _ _ => rfl, fun q => by rw [if_neg (by omega)], fun q => by rw [if_neg (by omega)], fun Q q => ⟨1, ⟨fun _ => q, fun z => absurd hle z⟩⟩⟩
  | succ m ih =>
    intro i μ hi
    have hlt : ¬ (6 : Int32) ≤ nI i := nI_ge (b := 6) (by omega) (by omega)
    have ci : (nI i).toNatClampNeg = i := nI_clamp (by omega)
    have vi : vp_in (nI i) 6 := vp_in_nI (by omega) (by decide)
    obtain ⟨vx, cx⟩ := idx6 (k := i) ha (by omega)
    have e8 : ∀ y z : Int32, up2 (up2 μ 8 (6 * a + i) y) 9 (6 * a + i) z 8 = upd (μ 8) (6 * a + i) y := fun _ _ => rfl
    have e9 : ∀ y z : Int32, up2 (up2 μ 8 (6 * a + i) y) 9 (6 * a + i) z 9 = upd (μ 9) (6 * a + i) z := fun _ _ => rfl
    obtain ⟨μ', g1, g4, g5, g6⟩ := ih (i + 1) (up2 (up2 μ 8 (6 * a + i) (μ 30 i)) 9 (6 * a + i) (μ 31 i)) (by omega)
    refine ⟨μ', fun c c1 c2 => by rw [g1 c c1 c2, up2_ne c2, up2_ne c1], fun q => ?_, fun q => ?_, fun Q q => ?_⟩
    · rw [g4 q, e8]
      by_cases z : 6 * a + (i + 1) ≤ q ∧ q < 6 * a + 6
      · rw [if_pos z, if_pos (by omega)]; rfl
      · rw [if_neg z]
        by_cases y : q = 6 * a + i
        · rw [y, upd_eq, if_pos (by omega), show 6 * a + i - 6 * a = i from by omega]
        · rw [upd_ne y, if_neg (by omega)]
    · rw [g5 q, e9]
      by_cases z : 6 * a + (i + 1) ≤ q ∧ q < 6 * a + 6
      · rw [if_pos z, if_pos (by omega)]; rfl
      · rw [if_neg z]
        by_cases y : q = 6 * a + i
        · rw [y, upd_eq, if_pos (by omega), show 6 * a + i - 6 * a = i from by omega]
        · rw [upd_ne y, if_neg (by omega)]
    · obtain ⟨fu, hfu⟩ := g6 Q q
      refine ⟨fu + 1, ⟨fun z => absurd z hlt, fun _ => ⟨vi, vx, fun s1 es1 => ⟨vi, vx, fun s2 es2 x ex => ?_⟩⟩⟩⟩
      subst ex; subst es2; subst es1
      rw [ci, cx, nI_1]
      exact hfu
set_option maxHeartbeats 4000000 in
theorem j_arm {σ μ : St} (h : RR σ μ) (a : Int32) : JJ RR (fun Q => wp_X9_arm Q a σ) (fun Q => wp_X10_arm Q a μ) := by
  rcases c_arm a with ⟨ha, hc, hm⟩ | ⟨hc, hm⟩
  · obtain ⟨k, hk, ea⟩ := vp_in_of ha (by decide)
    have ea := ea.symm
    subst ea
    have hA := h.2.2.2.2.2.2
    obtain ⟨pm, ct, h1, h2, h3, h4, h5, h6, h7, h8, h9, h10, h11, h12⟩ := hA
    have p3 := h1 3 (by omega)
    have pk := h1 k (by omega)
    have b3 : (nI (43 + 3 * pm 3)).toNatClampNeg = 43 + 3 * pm 3 := nI_clamp (by omega)
    have bk : (nI (43 + 3 * pm k)).toNatClampNeg = 43 + 3 * pm k := nI_clamp (by omega)
    have ck : (nI k).toNatClampNeg = k := nI_clamp (by omega)
    have inj : ∀ i j, i < 4 → j < 4 → i ≠ j → pm i ≠ pm j := fun i j hi hj hne z => hne (h2 i j hi hj z)
    have c3 := (h6 3 (by omega)).2
    have n3 := (h6 3 (by omega)).1
    by_cases hz : ct 3 = 0
    · refine ⟨-4, σ, μ, h, fun Q q => hc _ _ ⟨fun _ => ?_, fun z => absurd z (by decide)⟩, fun Q q => hm _ _ ⟨fun _ => ⟨fun z => absurd (by rw [h8, hz]; rfl) z, fun _ => q⟩, fun z => absurd z (by decide)⟩⟩
      rw [h4, b3, c3, hz]
      refine ⟨kcArm p3, fun x ex => ?_⟩
      subst ex
      exact ⟨fun z => absurd rfl z, fun _ => q⟩
    · have nz : ¬ nI (ct 3) = 0 := nI_nz hz (by omega)
      -- the class's arms, with the told ones in place k
      have S : ∀ c, c ≠ 41 → c ≠ 42 → up2 (up2 σ 42 k (nI (43 + 3 * pm 3))) 41 1 (nI (43 + 3 * pm k)) c = σ c := fun c y1 y2 => by rw [up2_ne y1, up2_ne y2]
      have S42 : up2 (up2 σ 42 k (nI (43 + 3 * pm 3))) 41 1 (nI (43 + 3 * pm k)) 42 = upd (σ 42) k (nI (43 + 3 * pm 3)) := rfl
      have S41 : up2 (up2 σ 42 k (nI (43 + 3 * pm 3))) 41 1 (nI (43 + 3 * pm k)) 41 1 = nI (43 + 3 * pm k) := rfl
      have hC : cArms (up2 (up2 σ 42 k (nI (43 + 3 * pm 3))) 41 1 (nI (43 + 3 * pm k))) (fun i => if i = k then pm 3 else if i = 3 then pm k else pm i) (fun i => if i = k then ct 3 else ct i) := by
        intro i hi
        by_cases z : i = k
        · subst z
          simp only [if_pos]
          rw [S42, upd_eq, S _ (by omega) (by omega), S _ (by omega) (by omega), S _ (by omega) (by omega)]
          refine ⟨p3, rfl, c3, by omega, n3, fun q hq => ?_, fun q hq => ?_⟩
          · rw [show 43 + 3 * pm 3 + 1 = 44 + 3 * pm 3 from by omega, show 43 + 3 * pm 3 + 2 = 45 + 3 * pm 3 from by omega]
            exact h11 3 q (by omega) hq
          · rw [show 43 + 3 * pm 3 + 1 = 44 + 3 * pm 3 from by omega]
            exact h12 3 q (by omega) hq
        · simp only [if_neg z, if_neg (show ¬ i = 3 by omega)]
          have := h1 i (by omega)
          rw [S42, upd_ne z, S _ (by omega) (by omega), S _ (by omega) (by omega), S _ (by omega) (by omega)]
          refine ⟨h1 i (by omega), h3 i hi, (h6 i (by omega)).2, h5 i hi, (h6 i (by omega)).1, fun q hq => ?_, fun q hq => ?_⟩
          · rw [show 43 + 3 * pm i + 1 = 44 + 3 * pm i from by omega, show 43 + 3 * pm i + 2 = 45 + 3 * pm i from by omega]
            exact h11 i q (by omega) hq
          · rw [show 43 + 3 * pm i + 1 = 44 + 3 * pm i from by omega]
            exact h12 i q (by omega) hq
      -- the reference's
      obtain ⟨μ1, t1, t2, t3, t4, t5, t6⟩ := take_loop hk 6 0 μ rfl
      have m0 : μ1 0 = μ 0 := t1 0 (by omega) (by omega) (by omega) (by omega)
      have m7 : μ1 7 = μ 7 := t1 7 (by omega) (by omega) (by omega) (by omega)
      have hM : mArms (up2 μ1 7 k (nI (ct 3))) (up2 (up2 σ 42 k (nI (43 + 3 * pm 3))) 41 1 (nI (43 + 3 * pm k))) (fun i => if i = k then pm 3 else if i = 3 then pm k else pm i) (fun i => if i = k then ct 3 else ct i) := by
        intro i hi
        have w7 : up2 μ1 7 k (nI (ct 3)) 7 = upd (μ 7) k (nI (ct 3)) := by rw [up2_eq, m7]
        have w8 : up2 μ1 7 k (nI (ct 3)) 8 = μ1 8 := rfl
        have w9 : up2 μ1 7 k (nI (ct 3)) 9 = μ1 9 := rfl
        unfold mA
        rw [w7, w8, w9]
        by_cases z : i = k
        · subst z
          simp only [if_pos]
          rw [upd_eq, S _ (by omega) (by omega), S _ (by omega) (by omega)]
          refine ⟨rfl, fun q hq => ?_⟩
          rw [show 43 + 3 * pm 3 + 1 = 44 + 3 * pm 3 from by omega, show 43 + 3 * pm 3 + 2 = 45 + 3 * pm 3 from by omega, t4, t5, if_pos (by omega), if_pos (by omega), show 6 * i + q - 6 * i = q from by omega]
          exact ⟨(h10 q hq).1.symm, (h10 q hq).2.symm⟩
        · simp only [if_neg z, if_neg (show ¬ i = 3 by omega)]
          have := h1 i (by omega)
          have := (h6 i (by omega)).1
          rw [upd_ne z, S _ (by omega) (by omega), S _ (by omega) (by omega)]
          refine ⟨h7 i hi, fun q hq => ?_⟩
          rw [show 43 + 3 * pm i + 1 = 44 + 3 * pm i from by omega, show 43 + 3 * pm i + 2 = 45 + 3 * pm i from by omega, t4, t5, if_neg (by omega), if_neg (by omega)]
          exact ⟨(h9 i q hi hq).1.symm, (h9 i q hi hq).2.symm⟩
      obtain ⟨r, hr, hq⟩ := clr_loop hC 3 0 rfl
      obtain ⟨r2, μ2, s2, hr2, hq2⟩ := ac_loop hC 3 0 _ rfl hM
      have er : r2 = r := by
        rcases hr with ⟨x1, x2⟩ | ⟨x1, x2⟩
        · rcases hr2 with ⟨y1, y2⟩ | ⟨y1, y2⟩
          · rw [x1, y1]
          · exact absurd x2 y2
        · rcases hr2 with ⟨y1, y2⟩ | ⟨y1, y2⟩
          · exact absurd y2 x2
          · rw [x1, y1]
      rw [er] at hq2
      -- both sides up to the question
      have C : ∀ Q : Int32 → St → Prop, ((¬ r = 0 → (∀ σ13 : St, σ13 = up2 (up2 (up2 σ 42 k (nI (43 + 3 * pm 3))) 41 1 (nI (43 + 3 * pm k))) (43 + 3 * pm k) 2 (0 : Int32) → Q (nI (ct 3)) σ13)) ∧ (r = 0 → Q (-5) σ)) → wp_X9_arm Q (nI k) σ := by
        intro Q q
        refine hc _ _ ⟨fun _ => ?_, fun z => absurd z (by decide)⟩
        rw [h4, b3, c3]
        refine ⟨kcArm p3, fun x ex => ?_⟩
        subst ex
        refine ⟨fun _ => ?_, fun z => absurd z nz⟩
        unfold wp_X7_swapWithTold
        rw [ck, h3 k hk, h4, b3, bk]
        refine ⟨ha, kcArm pk, kcArm p3, ha, fun s1 es1 s2 es2 => ?_⟩
        subst es2; subst es1
        refine hq _ ⟨fun z => ?_, fun z => ?_⟩
        · rw [S41, bk]
          exact ⟨kcArm pk, q.1 z⟩
        · rw [S42, S41, upd_eq, b3, bk]
          refine ⟨ha, kcArm p3, kcArm pk, ha, fun s1 es1 s2 es2 => ?_⟩
          subst es2; subst es1
          rw [swap2 h4 (h3 k hk)]
          exact q.2 z
      have M : ∀ Q : Int32 → St → Prop, ((¬ r = 0 → (∀ σ13 : St, σ13 = up2 μ2 0 11 (0 : Int32) → Q (σ13 7 k) σ13)) ∧ (r = 0 → (∀ σ16 : St, σ16 = up2 μ2 7 k (μ 7 k) → ∃ n, wl_X10_arm_134 Q (nI k) n σ16 (0 : Int32)))) → wp_X10_arm Q (nI k) μ := by
        intro Q q
        refine hm _ _ ⟨fun _ => ⟨fun _ => ⟨ha, fun x ex => ?_⟩, fun z => absurd (h8.symm.trans z) nz⟩, fun z => absurd z (by decide)⟩
        rw [ck] at ex
        subst ex
        refine t6 Q _ ⟨ha, fun s es => ?_⟩
        rw [ck, m0, h8] at es
        subst es
        refine hq2 _ ⟨fun z s es => ⟨ha, ?_⟩, fun z => ⟨ha, fun s es => ?_⟩⟩
        · rw [ck]; exact q.1 z s es
        · rw [ck] at es; exact q.2 z s es
      have v7 : μ2 7 = upd (μ 7) k (nI (ct 3)) := by rw [s2.1 7 (by omega), up2_eq, m7]
      have v8 : μ2 8 = μ1 8 := s2.1 8 (by omega)
      have v9 : μ2 9 = μ1 9 := s2.1 9 (by omega)
      have vF : ∀ c, c ≠ 0 → c ≠ 7 → c ≠ 8 → c ≠ 9 → c ≠ 30 → c ≠ 31 → μ2 c = μ c := fun c y0 y1 y2 y3 y4 y5 => by rw [s2.1 c y0, up2_ne y1, t1 c y2 y3 y4 y5]
      have vO : ∀ q, q ≠ 41 → q ≠ 42 → μ2 0 q = μ 0 q := fun q y1 y2 => by
        rw [s2.2 q y1 y2]
        show μ1 0 q = μ 0 q
        rw [m0]
      rcases hr with ⟨x1, x2⟩ | ⟨x1, x2⟩
      · have r0 : ¬ r = 0 := fun z => absurd (x1.symm.trans z) (by decide)
        -- taken
        have T : ∀ c, c ≠ 41 → c ≠ 42 → c ≠ 43 + 3 * pm k → up2 (up2 (up2 σ 42 k (nI (43 + 3 * pm 3))) 41 1 (nI (43 + 3 * pm k))) (43 + 3 * pm k) 2 0 c = σ c := fun c y1 y2 y3 => by rw [up2_ne y3, up2_ne y1, up2_ne y2]
        have T42 : up2 (up2 (up2 σ 42 k (nI (43 + 3 * pm 3))) 41 1 (nI (43 + 3 * pm k))) (43 + 3 * pm k) 2 0 42 = upd (σ 42) k (nI (43 + 3 * pm 3)) := by rw [up2_ne (by omega), S42]
        have T41 : up2 (up2 (up2 σ 42 k (nI (43 + 3 * pm 3))) 41 1 (nI (43 + 3 * pm k))) (43 + 3 * pm k) 2 0 41 1 = nI (43 + 3 * pm k) := by rw [up2_ne (by omega), S41]
        have TK : up2 (up2 (up2 σ 42 k (nI (43 + 3 * pm 3))) 41 1 (nI (43 + 3 * pm k))) (43 + 3 * pm k) 2 0 (43 + 3 * pm k) 2 = 0 := by rw [up2_eq, upd_eq]
        have w0 : ∀ q, q ≠ 11 → up2 μ2 0 11 0 0 q = μ2 0 q := fun q y => upd_ne (f := μ2 0) y
        -- what place i has now
        have pm3 : ∀ i, i < 4 → i ≠ k → i ≠ 3 → (if i = k then pm 3 else if i = 3 then pm k else pm i) = pm i := fun i _ y1 y2 => by rw [if_neg y1, if_neg y2]
        have hp : ∀ i, i < 4 → (if i = k then pm 3 else if i = 3 then pm k else pm i) < 4 := by
          intro i hi
          by_cases y1 : i = k
          · rw [if_pos y1]; exact p3
          · by_cases y2 : i = 3
            · rw [if_neg y1, if_pos y2]; exact pk
            · rw [if_neg y1, if_neg y2]; exact h1 i hi
        refine ⟨nI (ct 3), _, up2 μ2 0 11 0, RR_arm h (fun c hc => T c (by omega) (by omega) (by omega)) (fun c c1 c2 y1 y2 => by rw [up2_ne (by omega)]; exact vF c (by omega) (by omega) (by omega) (by omega) y1 y2) (fun q y1 y2 y3 => by rw [w0 q y1]; exact vO q y2 y3) ⟨fun i => if i = k then pm 3 else if i = 3 then pm k else pm i, fun i => if i = k then ct 3 else if i = 3 then 0 else ct i, hp, fun i j hi hj he => ?_, fun i hi => ?_, ?_, fun i hi => ?_, fun i hi => ?_, fun i hi => ?_, ?_, fun i q hi hq => ?_, fun q hq => ?_, fun i q hi hq => ?_, fun i q hi hq => ?_⟩, fun Q q => C Q ⟨fun _ s es => by subst es; exact q, fun z => absurd z r0⟩, fun Q q => M Q ⟨fun _ s es => ?_, fun z => absurd z r0⟩⟩
        · have he : (if i = k then pm 3 else if i = 3 then pm k else pm i) = (if j = k then pm 3 else if j = 3 then pm k else pm j) := he
          have f3k := inj 3 k (by omega) (by omega) (by omega)
          by_cases y1 : i = k
          · by_cases y2 : j = k
            · omega
            · rw [if_pos y1, if_neg y2] at he
              by_cases y3 : j = 3
              · rw [if_pos y3] at he; exact absurd he f3k
              · rw [if_neg y3] at he; exact absurd he (inj 3 j (by omega) hj (by omega))
          · by_cases y2 : j = k
            · rw [if_neg y1, if_pos y2] at he
              by_cases y3 : i = 3
              · rw [if_pos y3] at he; exact absurd he.symm f3k
              · rw [if_neg y3] at he; exact absurd he (inj i 3 hi (by omega) (by omega))
            · rw [if_neg y1, if_neg y2] at he
              by_cases y3 : i = 3
              · by_cases y4 : j = 3
                · omega
                · rw [if_pos y3, if_neg y4] at he; exact absurd he (inj k j (by omega) hj (by omega))
              · by_cases y4 : j = 3
                · rw [if_neg y3, if_pos y4] at he; exact absurd he (inj i k hi (by omega) (by omega))
                · rw [if_neg y3, if_neg y4] at he; exact h2 i j hi hj he
        · rw [T42]
          by_cases y1 : i = k
          · rw [y1, upd_eq]; simp only [if_pos]
          · rw [upd_ne y1]
            simp only [if_neg y1, if_neg (show ¬ i = 3 by omega)]
            exact h3 i hi
        · rw [T41]
          simp only [if_neg (show ¬ 3 = k by omega), if_pos]
        · show 1 ≤ (if i = k then ct 3 else if i = 3 then 0 else ct i)
          by_cases y1 : i = k
          · rw [if_pos y1]; omega
          · rw [if_neg y1, if_neg (by omega)]; exact h5 i hi
        · by_cases y1 : i = k
          · simp only [if_pos y1]
            have := inj 3 k (by omega) (by omega) (by omega)
            rw [T _ (by omega) (by omega) (by omega)]
            exact ⟨n3, c3⟩
          · by_cases y2 : i = 3
            · simp only [if_neg y1, if_pos y2]
              exact ⟨by omega, TK⟩
            · simp only [if_neg y1, if_neg y2]
              have := inj i k (by omega) (by omega) y1
              rw [T _ (by omega) (by omega) (by omega)]
              exact h6 i hi
        · have w7 : up2 μ2 0 11 0 7 = μ2 7 := rfl
          rw [w7, v7]
          by_cases y1 : i = k
          · rw [y1, upd_eq]; simp only [if_pos]
          · rw [upd_ne y1]
            simp only [if_neg y1, if_neg (show ¬ i = 3 by omega)]
            exact h7 i hi
        · show (0 : Int32) = nI (if 3 = k then ct 3 else if 3 = 3 then 0 else ct 3)
          rw [if_neg (by omega), if_pos rfl]
          rfl
        · have w8 : up2 μ2 0 11 0 8 = μ1 8 := by rw [up2_ne (by omega)]; exact v8
          have w9 : up2 μ2 0 11 0 9 = μ1 9 := by rw [up2_ne (by omega)]; exact v9
          rw [w8, w9, t4, t5]
          by_cases y1 : i = k
          · simp only [if_pos y1] at hq ⊢
            rw [T _ (by omega) (by omega) (by omega), T _ (by omega) (by omega) (by omega), if_pos (by omega), if_pos (by omega), show 6 * i + q - 6 * k = q from by omega]
            exact h10 q hq
          · simp only [if_neg y1, if_neg (show ¬ i = 3 by omega)] at hq ⊢
            have := (h6 i (by omega)).1
            have := h1 i (by omega)
            rw [T _ (by omega) (by omega) (by omega), T _ (by omega) (by omega) (by omega), if_neg (by omega), if_neg (by omega)]
            exact h9 i q hi hq
        · simp only [if_neg (show ¬ 3 = k by omega), if_pos] at hq
          omega
        · by_cases y1 : i = k
          · simp only [if_pos y1] at hq ⊢
            rw [T _ (by omega) (by omega) (by omega), T _ (by omega) (by omega) (by omega)]
            exact h11 3 q (by omega) hq
          · by_cases y2 : i = 3
            · simp only [if_neg y1, if_pos y2] at hq
              omega
            · simp only [if_neg y1, if_neg y2] at hq ⊢
              have := h1 i (by omega)
              rw [T _ (by omega) (by omega) (by omega), T _ (by omega) (by omega) (by omega)]
              exact h11 i q hi hq
        · by_cases y1 : i = k
          · simp only [if_pos y1] at hq ⊢
            rw [T _ (by omega) (by omega) (by omega)]
            exact h12 3 q (by omega) hq
          · by_cases y2 : i = 3
            · simp only [if_neg y1, if_pos y2] at hq
              omega
            · simp only [if_neg y1, if_neg y2] at hq ⊢
              have := h1 i (by omega)
              rw [T _ (by omega) (by omega) (by omega)]
              exact h12 i q hi hq
        · subst es
          have w7 : up2 μ2 0 11 0 7 k = nI (ct 3) := by
            show μ2 7 k = nI (ct 3)
            rw [v7, upd_eq]
          rw [w7]
          exact q
      · -- too near: all as it was
        obtain ⟨μ3, u1, u2, u3, u4⟩ := back_loop hk 6 0 (up2 μ2 7 k (μ 7 k)) rfl
        have w7 : μ3 7 = μ 7 := by
          rw [u1 7 (by omega) (by omega), up2_eq, v7]
          funext q
          by_cases y : q = k
          · rw [y, upd_eq]
          · rw [upd_ne y, upd_ne y]
        have w8 : μ3 8 = μ 8 := by
          funext q
          rw [u2 q]
          by_cases y : 6 * k + 0 ≤ q ∧ q < 6 * k + 6
          · rw [if_pos y, up2_ne (by omega), s2.1 30 (by omega), up2_ne (by omega), (t2 (q - 6 * k) (by omega) (by omega)).1, show 6 * k + (q - 6 * k) = q from by omega]
          · rw [if_neg y, up2_ne (by omega), v8, t4, if_neg y]
        have w9 : μ3 9 = μ 9 := by
          funext q
          rw [u3 q]
          by_cases y : 6 * k + 0 ≤ q ∧ q < 6 * k + 6
          · rw [if_pos y, up2_ne (by omega), s2.1 31 (by omega), up2_ne (by omega), (t2 (q - 6 * k) (by omega) (by omega)).2, show 6 * k + (q - 6 * k) = q from by omega]
          · rw [if_neg y, up2_ne (by omega), v9, t5, if_neg y]
        have wF : ∀ c, c ≠ 0 → c ≠ 7 → c ≠ 8 → c ≠ 9 → c ≠ 30 → c ≠ 31 → μ3 c = μ c := fun c y0 y1 y2 y3 y4 y5 => by rw [u1 c y2 y3, up2_ne y1]; exact vF c y0 y1 y2 y3 y4 y5
        have wO : ∀ q, q ≠ 41 → q ≠ 42 → μ3 0 q = μ 0 q := fun q y1 y2 => by
          rw [u1 0 (by omega) (by omega)]
          exact vO q y1 y2
        refine ⟨-5, σ, μ3, RR_arm h (fun _ _ => rfl) (fun c c1 c2 y1 y2 => wF c (by omega) (by omega) (by omega) (by omega) y1 y2) (fun q _ y2 y3 => wO q y2 y3) (rA_c (fun _ _ _ => rfl) (wO 11 (by omega) (by omega)) (fun i i1 i2 => ?_) h.2.2.2.2.2.2), fun Q q => C Q ⟨fun z => absurd x1 z, fun _ => q⟩, fun Q q => M Q ⟨fun z => absurd x1 z, fun _ s es => ?_⟩⟩
        · rcases (show i = 7 ∨ i = 8 ∨ i = 9 ∨ 10 ≤ i by omega) with y | y | y | y
          · rw [y]; exact w7
          · rw [y]; exact w8
          · rw [y]; exact w9
          · exact wF i (by omega) (by omega) (by omega) (by omega) (by omega) (by omega)
        · subst es
          exact u4 Q q
  · exact ⟨-1, σ, μ, h, fun Q q => hc _ _ ⟨fun z => absurd rfl z, fun _ => q⟩, fun Q q => hm _ _ ⟨fun z => absurd rfl z, fun _ => q⟩⟩
