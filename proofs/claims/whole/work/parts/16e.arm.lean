/-! arms: where two are nearest -/
def FFv (f1 g1 : Nat → Int32) (n1 : Nat) (f2 g2 : Nat → Int32) (n2 : Nat) (d : Int32) : Int64 := ((abV f2 g2 n2 d).toInt64 * (blV f1 n1 d).toInt64) - ((abV f1 g1 n1 d).toInt64 * (blV f2 n2 d).toInt64)
def EEv (f1 : Nat → Int32) (n1 : Nat) (f2 : Nat → Int32) (n2 : Nat) (d : Int32) : Int64 := (blV f1 n1 d).toInt64 * (blV f2 n2 d).toInt64
section Near
variable {f1 g1 f2 g2 : Nat → Int32} {n1 n2 : Nat}
theorem ff_ti (h1 : knOK f1 g1 n1) (h2 : knOK f2 g2 n2) {d : Int32} (hd : deg d) : (FFv f1 g1 n1 f2 g2 n2 d).toInt = FF f1 g1 n1 f2 g2 n2 d ∧ -129600000 ≤ FF f1 g1 n1 f2 g2 n2 d ∧ FF f1 g1 n1 f2 g2 n2 d ≤ 129600000 := by
  obtain ⟨u1, u2, u3, _⟩ := gn_bl h1 hd
  obtain ⟨v1, v2, v3, _⟩ := gn_bl h2 hd
  obtain ⟨_, w1, w2⟩ := ab_eq h1 hd
  obtain ⟨_, w3, w4⟩ := ab_eq h2 hd
  have b1 := mul_bd (x := AB f2 g2 n2 d) (y := BL f1 n1 d) (A := 360000) (B := 360) w3 w4 (by omega) u3
  have b2 := mul_bd (x := AB f1 g1 n1 d) (y := BL f2 n2 d) (A := 360000) (B := 360) w1 w2 (by omega) v3
  have e1 : ((abV f2 g2 n2 d).toInt64 * (blV f1 n1 d).toInt64).toInt = AB f2 g2 n2 d * BL f1 n1 d := tl_32
  have e2 : ((abV f1 g1 n1 d).toInt64 * (blV f2 n2 d).toInt64).toInt = AB f1 g1 n1 d * BL f2 n2 d := tl_32
  have hF : FF f1 g1 n1 f2 g2 n2 d = AB f2 g2 n2 d * BL f1 n1 d - AB f1 g1 n1 d * BL f2 n2 d := rfl
  refine ⟨?_, by rw [hF]; omega, by rw [hF]; omega⟩
  show (((abV f2 g2 n2 d).toInt64 * (blV f1 n1 d).toInt64) - ((abV f1 g1 n1 d).toInt64 * (blV f2 n2 d).toInt64)).toInt = _
  rw [tl_sub (by rw [e1, e2]; omega) (by rw [e1, e2]; omega), e1, e2, hF]
theorem eev_ti (h1 : knOK f1 g1 n1) (h2 : knOK f2 g2 n2) {d : Int32} (hd : deg d) : (EEv f1 n1 f2 n2 d).toInt = EE f1 n1 f2 n2 d ∧ 0 < EE f1 n1 f2 n2 d ∧ EE f1 n1 f2 n2 d ≤ 129600 := by
  obtain ⟨u1, u2, u3, _⟩ := gn_bl h1 hd
  obtain ⟨v1, v2, v3, _⟩ := gn_bl h2 hd
  have b1 := mul_bd (x := BL f1 n1 d) (y := BL f2 n2 d) (A := 360) (B := 360) (by omega) u3 (by omega) v3
  exact ⟨tl_32, Int.mul_pos (by omega) (by omega), b1.2⟩
theorem fe_ti (h1 : knOK f1 g1 n1) (h2 : knOK f2 g2 n2) {d e : Int32} (hd : deg d) (he : deg e) : (FFv f1 g1 n1 f2 g2 n2 d * EEv f1 n1 f2 n2 e).toInt = FF f1 g1 n1 f2 g2 n2 d * EE f1 n1 f2 n2 e := by
  obtain ⟨a1, a2, a3⟩ := ff_ti h1 h2 hd
  obtain ⟨b1, b2, b3⟩ := eev_ti h1 h2 he
  have hb : (FF f1 g1 n1 f2 g2 n2 d * EE f1 n1 f2 n2 e).natAbs ≤ 129600000 * 129600 := by
    rw [Int.natAbs_mul]
    exact Nat.mul_le_mul (by omega) (by omega)
  rw [tl_mul (by rw [a1, b1]; omega) (by rw [a1, b1]; omega), a1, b1]
theorem isBest_c {P P' : Nat → Prop} (h : ∀ y, y < 360 → (P y ↔ P' y)) {b : Nat} (hb : isBest f1 g1 n1 f2 g2 n2 P b) : isBest f1 g1 n1 f2 g2 n2 P' b := ⟨hb.1, (h b hb.1).mp hb.2.1, fun x hx hp => hb.2.2 x hx ((h x hx).mpr hp)⟩
/-- one more candidate -/
theorem best_add (h1 : knOK f1 g1 n1) (h2 : knOK f2 g2 n2) {P : Nat → Prop} {b x : Nat} (hb : isBest f1 g1 n1 f2 g2 n2 P b) (hx : x < 360) :
    (FF f1 g1 n1 f2 g2 n2 (nI x) * EE f1 n1 f2 n2 (nI b) = FF f1 g1 n1 f2 g2 n2 (nI b) * EE f1 n1 f2 n2 (nI x) → isBest f1 g1 n1 f2 g2 n2 (fun y => P y ∨ y = x) (if x < b then x else b)) ∧
    (FF f1 g1 n1 f2 g2 n2 (nI x) * EE f1 n1 f2 n2 (nI b) < FF f1 g1 n1 f2 g2 n2 (nI b) * EE f1 n1 f2 n2 (nI x) → isBest f1 g1 n1 f2 g2 n2 (fun y => P y ∨ y = x) x) ∧
    (FF f1 g1 n1 f2 g2 n2 (nI b) * EE f1 n1 f2 n2 (nI x) < FF f1 g1 n1 f2 g2 n2 (nI x) * EE f1 n1 f2 n2 (nI b) → isBest f1 g1 n1 f2 g2 n2 (fun y => P y ∨ y = x) b) := by
  obtain ⟨b1, b2, b3⟩ := hb
  have eb := ee_pos h1 h2 b1
  have ex := ee_pos h1 h2 hx
  refine ⟨fun he => ?_, fun hl => ?_, fun hg => ?_⟩
  · by_cases z : x < b
    · rw [if_pos z]
      refine ⟨hx, Or.inr rfl, fun y hy hp => ?_⟩
      have ey := ee_pos h1 h2 hy
      rcases hp with hp | hp
      · rcases b3 y hy hp with w | ⟨w1, w2⟩
        · exact Or.inl (fr_le_lt ex eb ey (Int.le_of_eq he) w)
        · have q1 := fr_le_le ex eb ey (Int.le_of_eq he) (Int.le_of_eq w1)
          have q2 := fr_le_le ey eb ex (Int.le_of_eq w1.symm) (Int.le_of_eq he.symm)
          exact Or.inr ⟨by omega, by omega⟩
      · rw [hp]; exact Or.inr ⟨rfl, Nat.le_refl _⟩
    · rw [if_neg z]
      refine ⟨b1, Or.inl b2, fun y hy hp => ?_⟩
      rcases hp with hp | hp
      · exact b3 y hy hp
      · rw [hp]; exact Or.inr ⟨he.symm, by omega⟩
  · refine ⟨hx, Or.inr rfl, fun y hy hp => ?_⟩
    have ey := ee_pos h1 h2 hy
    rcases hp with hp | hp
    · have w : FF f1 g1 n1 f2 g2 n2 (nI b) * EE f1 n1 f2 n2 (nI y) ≤ FF f1 g1 n1 f2 g2 n2 (nI y) * EE f1 n1 f2 n2 (nI b) := by
        rcases b3 y hy hp with w | ⟨w1, w2⟩
        · omega
        · omega
      exact Or.inl (fr_lt_le ex eb ey hl w)
    · rw [hp]; exact Or.inr ⟨rfl, Nat.le_refl _⟩
  · refine ⟨b1, Or.inl b2, fun y hy hp => ?_⟩
    rcases hp with hp | hp
    · exact b3 y hy hp
    · rw [hp]; exact Or.inl hg
end Near
section NC
variable {σ : St} {o0 o1 n1 n2 : Nat}
theorem dAb_c (h1 : knOK (σ (o0 + 1)) (σ (o0 + 2)) n1) (c1 : σ o0 2 = nI n1) (h2 : knOK (σ (o1 + 1)) (σ (o1 + 2)) n2) (c2 : σ o1 2 = nI n2) {d : Int32} {Q : Int64 → St → Prop} (q : Q (FFv (σ (o0 + 1)) (σ (o0 + 2)) n1 (σ (o1 + 1)) (σ (o1 + 2)) n2 d) σ) : wp_X7_distanceAbove Q o0 o1 d σ :=
  above_c h2 c2 (below_c h1 c1 (fun x ex => above_c h1 c1 (below_c h2 c2 (fun y ey => by
    subst ey; subst ex
    exact q))))
theorem dBl_c (h1 : knOK (σ (o0 + 1)) (σ (o0 + 2)) n1) (c1 : σ o0 2 = nI n1) (h2 : knOK (σ (o1 + 1)) (σ (o1 + 2)) n2) (c2 : σ o1 2 = nI n2) {d : Int32} {Q : Int64 → St → Prop} (q : Q (EEv (σ (o0 + 1)) n1 (σ (o1 + 1)) n2 d) σ) : wp_X7_distanceBelow Q o0 o1 d σ :=
  below_c h1 c1 (below_c h2 c2 q)
set_option maxHeartbeats 1000000 in
theorem nearer_c (h1 : knOK (σ (o0 + 1)) (σ (o0 + 2)) n1) (c1 : σ o0 2 = nI n1) (h2 : knOK (σ (o1 + 1)) (σ (o1 + 2)) n2) (c2 : σ o1 2 = nI n2) {P : Nat → Prop} {b x : Nat} (hb : isBest (σ (o0 + 1)) (σ (o0 + 2)) n1 (σ (o1 + 1)) (σ (o1 + 2)) n2 P b) (hx : x < 360) : ∃ r : Nat, isBest (σ (o0 + 1)) (σ (o0 + 2)) n1 (σ (o1 + 1)) (σ (o1 + 2)) n2 (fun y => P y ∨ y = x) r ∧ ∀ Q : Int32 → St → Prop, Q (nI r) σ → wp_X7_nearerDegree Q o0 o1 (nI b) (nI x) σ := by
  have hbl := hb.1
  obtain ⟨a1, a2, a3⟩ := best_add h1 h2 hb hx
  have e1 := fe_ti h1 h2 (deg_nI hb.1) (deg_nI hx)
  have e2 := fe_ti h1 h2 (deg_nI hx) (deg_nI hb.1)
  have go : ∀ (r : Nat), (∀ Q : Int32 → St → Prop, Q (nI r) σ → (¬ (lg_cmp (FFv (σ (o0 + 1)) (σ (o0 + 2)) n1 (σ (o1 + 1)) (σ (o1 + 2)) n2 (nI x) * EEv (σ (o0 + 1)) n1 (σ (o1 + 1)) n2 (nI b)) (FFv (σ (o0 + 1)) (σ (o0 + 2)) n1 (σ (o1 + 1)) (σ (o1 + 2)) n2 (nI b) * EEv (σ (o0 + 1)) n1 (σ (o1 + 1)) n2 (nI x))) = 0 → ((0 ≤ (lg_cmp (FFv (σ (o0 + 1)) (σ (o0 + 2)) n1 (σ (o1 + 1)) (σ (o1 + 2)) n2 (nI x) * EEv (σ (o0 + 1)) n1 (σ (o1 + 1)) n2 (nI b)) (FFv (σ (o0 + 1)) (σ (o0 + 2)) n1 (σ (o1 + 1)) (σ (o1 + 2)) n2 (nI b) * EEv (σ (o0 + 1)) n1 (σ (o1 + 1)) n2 (nI x))) → (Q (nI b) σ)) ∧ (¬ 0 ≤ (lg_cmp (FFv (σ (o0 + 1)) (σ (o0 + 2)) n1 (σ (o1 + 1)) (σ (o1 + 2)) n2 (nI x) * EEv (σ (o0 + 1)) n1 (σ (o1 + 1)) n2 (nI b)) (FFv (σ (o0 + 1)) (σ (o0 + 2)) n1 (σ (o1 + 1)) (σ (o1 + 2)) n2 (nI b) * EEv (σ (o0 + 1)) n1 (σ (o1 + 1)) n2 (nI x))) → (Q (nI x) σ)))) ∧ ((lg_cmp (FFv (σ (o0 + 1)) (σ (o0 + 2)) n1 (σ (o1 + 1)) (σ (o1 + 2)) n2 (nI x) * EEv (σ (o0 + 1)) n1 (σ (o1 + 1)) n2 (nI b)) (FFv (σ (o0 + 1)) (σ (o0 + 2)) n1 (σ (o1 + 1)) (σ (o1 + 2)) n2 (nI b) * EEv (σ (o0 + 1)) n1 (σ (o1 + 1)) n2 (nI x))) = 0 → (Q (if nI x < nI b then nI x else nI b) σ))) → ∀ Q : Int32 → St → Prop, Q (nI r) σ → wp_X7_nearerDegree Q o0 o1 (nI b) (nI x) σ := by
    intro r hr Q q
    refine dAb_c h1 c1 h2 c2 (dBl_c h1 c1 h2 c2 (fun u eu => dAb_c h1 c1 h2 c2 (dBl_c h1 c1 h2 c2 (fun v ev => ?_))))
    subst ev; subst eu
    exact hr Q q
  rcases Int.lt_trichotomy (FF (σ (o0 + 1)) (σ (o0 + 2)) n1 (σ (o1 + 1)) (σ (o1 + 2)) n2 (nI x) * EE (σ (o0 + 1)) n1 (σ (o1 + 1)) n2 (nI b)) (FF (σ (o0 + 1)) (σ (o0 + 2)) n1 (σ (o1 + 1)) (σ (o1 + 2)) n2 (nI b) * EE (σ (o0 + 1)) n1 (σ (o1 + 1)) n2 (nI x)) with w | w | w
  · refine ⟨x, a2 w, go x (fun Q q => ?_)⟩
    rw [lg_cmp_ge, lg_cmp_eq, Int64.le_iff_toInt_le, ← Int64.toInt_inj, e1, e2]
    exact ⟨fun _ => ⟨fun z => absurd w (by omega), fun _ => q⟩, fun z => absurd w (by omega)⟩
  · refine ⟨if x < b then x else b, a1 w, go _ (fun Q q => ?_)⟩
    have em : (if nI x < nI b then nI x else nI b) = nI (if x < b then x else b) := by
      have tx : (nI x).toInt = (x : Int) := nI_toInt (by omega)
      have tb : (nI b).toInt = (b : Int) := nI_toInt (by omega)
      by_cases z : x < b
      · rw [if_pos z, if_pos]
        rw [Int32.lt_iff_toInt_lt]; omega
      · rw [if_neg z, if_neg]
        rw [Int32.lt_iff_toInt_lt]; omega
    rw [lg_cmp_ge, lg_cmp_eq, Int64.le_iff_toInt_le, ← Int64.toInt_inj, e1, e2, em]
    exact ⟨fun z => absurd w z, fun _ => q⟩
  · refine ⟨b, a3 w, go b (fun Q q => ?_)⟩
    rw [lg_cmp_ge, lg_cmp_eq, Int64.le_iff_toInt_le, ← Int64.toInt_inj, e1, e2]
    exact ⟨fun _ => ⟨fun _ => q, fun z => absurd w (by omega)⟩, fun z => absurd w (by omega)⟩
theorem near37 (h1 : knOK (σ (o0 + 1)) (σ (o0 + 2)) n1) (c1 : σ o0 2 = nI n1) (h2 : knOK (σ (o1 + 1)) (σ (o1 + 2)) n2) (c2 : σ o1 2 = nI n2) : ∀ (m i b : Nat) (P : Nat → Prop), i + m = n2 → isBest (σ (o0 + 1)) (σ (o0 + 2)) n1 (σ (o1 + 1)) (σ (o1 + 2)) n2 P b → ∃ r : Nat, isBest (σ (o0 + 1)) (σ (o0 + 2)) n1 (σ (o1 + 1)) (σ (o1 + 2)) n2 (fun y => P y ∨ ∃ k, i ≤ k ∧ k < n2 ∧ (σ (o1 + 1) k).toInt = (y : Int)) r ∧ ∀ Q : Int32 → St → Prop, Q (nI r) σ → ∃ fu, wl_X7_nearestDegree_37 Q o0 o1 fu σ (nI b) (nI i) := by
  have hn := h2.2.1
  intro m
  induction m with
  | zero =>
    intro i b P hi hb
    have hle : (σ o1 2) ≤ nI i := by rw [c2]; exact nI_le (by omega) (by omega)
    refine ⟨b, isBest_c (fun y hy => ⟨fun z => Or.inl z, fun z => ?_⟩) hb, fun Q q => ⟨1, ⟨fun _ => q, fun z => absurd hle z⟩⟩⟩
    rcases z with z | ⟨k, k1, k2, _⟩
    · exact z
    · omega
  | succ m ih =>
    intro i b P hi hb
    have hlt : ¬ (σ o1 2) ≤ nI i := by rw [c2]; exact nI_ge (by omega) (by omega)
    have ci : (nI i).toNatClampNeg = i := nI_clamp (by omega)
    have vi : vp_in (nI i) 6 := vp_in_nI (by omega) (by decide)
    obtain ⟨x, x1, x2, x3⟩ := deg_ex (h2.2.2.1 i (by omega)).1
    obtain ⟨r1, hr1, hq1⟩ := nearer_c h1 c1 h2 c2 hb x1
    obtain ⟨r, hr, hq⟩ := ih (i + 1) r1 _ (by omega) hr1
    refine ⟨r, isBest_c (fun y hy => ⟨fun z => ?_, fun z => ?_⟩) hr, fun Q q => ?_⟩
    · rcases z with (z | z) | ⟨k, k1, k2, k3⟩
      · exact Or.inl z
      · exact Or.inr ⟨i, Nat.le_refl _, by omega, by omega⟩
      · exact Or.inr ⟨k, by omega, k2, k3⟩
    · rcases z with z | ⟨k, k1, k2, k3⟩
      · exact Or.inl (Or.inl z)
      · by_cases w : k = i
        · rw [w] at k3
          exact Or.inl (Or.inr (by omega))
        · exact Or.inr ⟨k, by omega, k2, k3⟩
    · obtain ⟨fu, hfu⟩ := hq Q q
      refine ⟨fu + 1, ⟨fun z => absurd z hlt, fun _ => ⟨vi, ?_⟩⟩⟩
      rw [ci, x3]
      refine hq1 _ (fun y ey => ?_)
      subst ey
      rw [nI_1]
      exact hfu
theorem near5 (h1 : knOK (σ (o0 + 1)) (σ (o0 + 2)) n1) (c1 : σ o0 2 = nI n1) (h2 : knOK (σ (o1 + 1)) (σ (o1 + 2)) n2) (c2 : σ o1 2 = nI n2) : ∀ (m i b : Nat) (P : Nat → Prop), i + m = n1 → isBest (σ (o0 + 1)) (σ (o0 + 2)) n1 (σ (o1 + 1)) (σ (o1 + 2)) n2 P b → ∃ r : Nat, isBest (σ (o0 + 1)) (σ (o0 + 2)) n1 (σ (o1 + 1)) (σ (o1 + 2)) n2 (fun y => (P y ∨ ∃ k, i ≤ k ∧ k < n1 ∧ (σ (o0 + 1) k).toInt = (y : Int)) ∨ ∃ k, 0 ≤ k ∧ k < n2 ∧ (σ (o1 + 1) k).toInt = (y : Int)) r ∧ ∀ Q : Int32 → St → Prop, Q (nI r) σ → ∃ fu, wl_X7_nearestDegree_5 Q o0 o1 fu σ (nI b) (nI i) := by
  have hn := h1.2.1
  intro m
  induction m with
  | zero =>
    intro i b P hi hb
    have hle : (σ o0 2) ≤ nI i := by rw [c1]; exact nI_le (by omega) (by omega)
    obtain ⟨r, hr, hq⟩ := near37 h1 c1 h2 c2 n2 0 b P (by omega) hb
    refine ⟨r, isBest_c (fun y hy => ⟨fun z => ?_, fun z => ?_⟩) hr, fun Q q => ⟨1, ⟨fun _ => hq Q q, fun z => absurd hle z⟩⟩⟩
    · rcases z with z | z
      · exact Or.inl (Or.inl z)
      · exact Or.inr z
    · rcases z with (z | ⟨k, k1, k2, _⟩) | z
      · exact Or.inl z
      · omega
      · exact Or.inr z
  | succ m ih =>
    intro i b P hi hb
    have hlt : ¬ (σ o0 2) ≤ nI i := by rw [c1]; exact nI_ge (by omega) (by omega)
    have ci : (nI i).toNatClampNeg = i := nI_clamp (by omega)
    have vi : vp_in (nI i) 6 := vp_in_nI (by omega) (by decide)
    obtain ⟨x, x1, x2, x3⟩ := deg_ex (h1.2.2.1 i (by omega)).1
    obtain ⟨r1, hr1, hq1⟩ := nearer_c h1 c1 h2 c2 hb x1
    obtain ⟨r, hr, hq⟩ := ih (i + 1) r1 _ (by omega) hr1
    refine ⟨r, isBest_c (fun y hy => ⟨fun z => ?_, fun z => ?_⟩) hr, fun Q q => ?_⟩
    · rcases z with ((z | z) | ⟨k, k1, k2, k3⟩) | z
      · exact Or.inl (Or.inl z)
      · exact Or.inl (Or.inr ⟨i, Nat.le_refl _, by omega, by omega⟩)
      · exact Or.inl (Or.inr ⟨k, by omega, k2, k3⟩)
      · exact Or.inr z
    · rcases z with (z | ⟨k, k1, k2, k3⟩) | z
      · exact Or.inl (Or.inl (Or.inl z))
      · by_cases w : k = i
        · rw [w] at k3
          exact Or.inl (Or.inl (Or.inr (by omega)))
        · exact Or.inl (Or.inr ⟨k, by omega, k2, k3⟩)
      · exact Or.inr z
    · obtain ⟨fu, hfu⟩ := hq Q q
      refine ⟨fu + 1, ⟨fun z => absurd z hlt, fun _ => ⟨vi, ?_⟩⟩⟩
      rw [ci, x3]
      refine hq1 _ (fun y ey => ?_)
      subst ey
      rw [nI_1]
      exact hfu
theorem near_c (h1 : knOK (σ (o0 + 1)) (σ (o0 + 2)) n1) (c1 : σ o0 2 = nI n1) (h2 : knOK (σ (o1 + 1)) (σ (o1 + 2)) n2) (c2 : σ o1 2 = nI n2) : ∃ r : Nat, isBest (σ (o0 + 1)) (σ (o0 + 2)) n1 (σ (o1 + 1)) (σ (o1 + 2)) n2 (fun x => x = 0 ∨ isKn (σ (o0 + 1)) n1 (σ (o1 + 1)) n2 x) r ∧ ∀ Q : Int32 → St → Prop, Q (nI r) σ → wp_X7_nearestDegree Q o0 o1 σ := by
  obtain ⟨r, hr, hq⟩ := near5 h1 c1 h2 c2 n1 0 0 (fun x => x = 0) (by omega) ⟨by omega, rfl, fun x hx hp => by rw [hp]; exact Or.inr ⟨rfl, Nat.le_refl _⟩⟩
  refine ⟨r, isBest_c (fun y hy => ⟨fun z => ?_, fun z => ?_⟩) hr, fun Q q => hq Q q⟩
  · rcases z with (z | ⟨k, k1, k2, k3⟩) | ⟨k, k1, k2, k3⟩
    · exact Or.inl z
    · exact Or.inr (Or.inl ⟨k, k2, k3⟩)
    · exact Or.inr (Or.inr ⟨k, k2, k3⟩)
  · rcases z with z | ⟨k, k2, k3⟩ | ⟨k, k2, k3⟩
    · exact Or.inl (Or.inl z)
    · exact Or.inl (Or.inr ⟨k, Nat.zero_le _, k2, k3⟩)
    · exact Or.inr ⟨k, Nat.zero_le _, k2, k3⟩
end NC
section NM
variable {f1 g1 f2 g2 : Nat → Int32} {n1 n2 : Nat}
set_option maxHeartbeats 1000000 in
theorem near_m {i j : Nat} (hi : i < 3) (hj : j < 3) (h1 : knOK f1 g1 n1) (h2 : knOK f2 g2 n2) : ∀ (m x : Nat) (μ : St) (b : Nat), x + m = 360 → mA μ i f1 g1 n1 → mA μ j f2 g2 n2 → b < x → (∀ y, y < x → FF f1 g1 n1 f2 g2 n2 (nI b) * EE f1 n1 f2 n2 (nI y) ≤ FF f1 g1 n1 f2 g2 n2 (nI y) * EE f1 n1 f2 n2 (nI b)) → (∀ y, y < b → FF f1 g1 n1 f2 g2 n2 (nI b) * EE f1 n1 f2 n2 (nI y) < FF f1 g1 n1 f2 g2 n2 (nI y) * EE f1 n1 f2 n2 (nI b)) →
    ∃ (r : Nat) (μ' : St), scr μ μ' ∧ isMin f1 g1 n1 f2 g2 n2 r ∧ ∀ Q : Int32 → St → Prop, Q (nI r) μ' → ∃ fu, wl_X10_nearest_32 Q (nI i) (nI j) fu μ (nI b) (FFv f1 g1 n1 f2 g2 n2 (nI b)) (EEv f1 n1 f2 n2 (nI b)) (nI x) := by
  intro m
  induction m with
  | zero =>
    intro x μ b hx m1 m2 hb hle hlt
    have hle2 : (360 : Int32) ≤ nI x := nI_le (a := 360) (by omega) (by omega)
    exact ⟨b, μ, scr_r, ⟨by omega, fun y hy => hle y (by omega), hlt⟩, fun Q q => ⟨1, ⟨fun _ => q, fun z => absurd hle2 z⟩⟩⟩
  | succ m ih =>
    intro x μ b hx m1 m2 hb hle hlt
    have hx3 : x < 360 := by omega
    have hb3 : b < 360 := by omega
    have hno : ¬ (360 : Int32) ≤ nI x := nI_ge (b := 360) (by omega) (by omega)
    have hd : deg (nI x) := deg_nI (by omega)
    have hdb : deg (nI b) := deg_nI (by omega)
    have nb : ¬ nI b < 0 := nI_pos (by omega)
    have s1 := scr_1 (μ := μ) (x := abV f1 g1 n1 (nI x)) (y := blV f1 n1 (nI x))
    have s2 := scr_t s1 (scr_1 (x := abV f2 g2 n2 (nI x)) (y := blV f2 n2 (nI x)))
    have e1 := fe_ti h1 h2 hd hdb
    have e2 := fe_ti h1 h2 hdb hd
    have key : (0 ≤ lg_cmp (FFv f1 g1 n1 f2 g2 n2 (nI x) * EEv f1 n1 f2 n2 (nI b)) (FFv f1 g1 n1 f2 g2 n2 (nI b) * EEv f1 n1 f2 n2 (nI x))) ↔ FF f1 g1 n1 f2 g2 n2 (nI b) * EE f1 n1 f2 n2 (nI x) ≤ FF f1 g1 n1 f2 g2 n2 (nI x) * EE f1 n1 f2 n2 (nI b) := by
      rw [lg_cmp_ge, Int64.le_iff_toInt_le, e1, e2]
    by_cases hk : FF f1 g1 n1 f2 g2 n2 (nI b) * EE f1 n1 f2 n2 (nI x) ≤ FF f1 g1 n1 f2 g2 n2 (nI x) * EE f1 n1 f2 n2 (nI b)
    · obtain ⟨r, μ', s3, hr, hq⟩ := ih (x + 1) _ b (by omega) (mA_s s2 m1) (mA_s s2 m2) (by omega) (fun y hy => by
        by_cases z : y = x
        · rw [z]; exact hk
        · exact hle y (by omega)) hlt
      refine ⟨r, μ', scr_t s2 s3, hr, fun Q q => ?_⟩
      obtain ⟨fu, hfu⟩ := hq Q q
      refine ⟨fu + 1, ⟨fun z => absurd z hno, fun _ => find_m hi h1 m1 hd (fun u eu v ev => find_m hj h2 (mA_s s1 m2) hd (fun w ew t et => ?_))⟩⟩
      subst et; subst ew; subst ev; subst eu
      refine ⟨fun z => absurd z nb, fun _ => ⟨fun _ y ey => ?_, fun z => absurd (key.mpr hk) z⟩⟩
      subst ey
      rw [nI_1]
      exact hfu
    · have ex := ee_pos h1 h2 hx3
      have eb := ee_pos h1 h2 hb3
      have hs : ∀ y, y < x → FF f1 g1 n1 f2 g2 n2 (nI x) * EE f1 n1 f2 n2 (nI y) < FF f1 g1 n1 f2 g2 n2 (nI y) * EE f1 n1 f2 n2 (nI x) := fun y hy => fr_lt_le ex eb (ee_pos h1 h2 (by omega)) (by omega) (hle y hy)
      obtain ⟨r, μ', s3, hr, hq⟩ := ih (x + 1) _ x (by omega) (mA_s s2 m1) (mA_s s2 m2) (by omega) (fun y hy => by
        by_cases z : y = x
        · rw [z]; exact Int.le_refl _
        · exact Int.le_of_lt (hs y (by omega))) hs
      refine ⟨r, μ', scr_t s2 s3, hr, fun Q q => ?_⟩
      obtain ⟨fu, hfu⟩ := hq Q q
      refine ⟨fu + 1, ⟨fun z => absurd z hno, fun _ => find_m hi h1 m1 hd (fun u eu v ev => find_m hj h2 (mA_s s1 m2) hd (fun w ew t et => ?_))⟩⟩
      subst et; subst ew; subst ev; subst eu
      refine ⟨fun z => absurd z nb, fun _ => ⟨fun z => absurd (key.mp z) hk, fun _ y ey => ?_⟩⟩
      subst ey
      rw [nI_1]
      exact hfu
set_option maxHeartbeats 1000000 in
theorem near_m0 {i j : Nat} (hi : i < 3) (hj : j < 3) (h1 : knOK f1 g1 n1) (h2 : knOK f2 g2 n2) {μ : St} (m1 : mA μ i f1 g1 n1) (m2 : mA μ j f2 g2 n2) :
    ∃ (r : Nat) (μ' : St), scr μ μ' ∧ isMin f1 g1 n1 f2 g2 n2 r ∧ ∀ Q : Int32 → St → Prop, Q (nI r) μ' → ∃ fu, wl_X10_nearest_32 Q (nI i) (nI j) fu μ (-1) 0 1 (nI 0) := by
  have hno : ¬ (360 : Int32) ≤ nI 0 := by decide
  have hd : deg (nI 0) := deg_nI (by omega)
  have s1 := scr_1 (μ := μ) (x := abV f1 g1 n1 (nI 0)) (y := blV f1 n1 (nI 0))
  have s2 := scr_t s1 (scr_1 (x := abV f2 g2 n2 (nI 0)) (y := blV f2 n2 (nI 0)))
  obtain ⟨r, μ', s3, hr, hq⟩ := near_m hi hj h1 h2 359 1 _ 0 (by omega) (mA_s s2 m1) (mA_s s2 m2) (by omega) (fun y hy => by
    have : y = 0 := by omega
    rw [this]; exact Int.le_refl _) (fun y hy => by omega)
  refine ⟨r, μ', scr_t s2 s3, hr, fun Q q => ?_⟩
  obtain ⟨fu, hfu⟩ := hq Q q
  refine ⟨fu + 1, ⟨fun z => absurd z hno, fun _ => find_m hi h1 m1 hd (fun u eu v ev => find_m hj h2 (mA_s s1 m2) hd (fun w ew t et => ?_))⟩⟩
  subst et; subst ew; subst ev; subst eu
  refine ⟨fun _ y ey => ?_, fun z => absurd (by decide) z⟩
  subst ey
  exact hfu
end NM
