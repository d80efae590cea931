/-! arms: are they clear -/
theorem bnd2 {a b : Int} {A B : Nat} (ha : 0 ≤ a) (ha2 : a ≤ A) (hb : 0 ≤ b) (hb2 : b ≤ B) : 0 ≤ a * b ∧ a * b ≤ ((A * B : Nat) : Int) := by
  have := mul_bd ha ha2 hb hb2
  rw [Int.natCast_mul]
  exact this
def CL (f1 g1 : Nat → Int32) (n1 : Nat) (f2 g2 : Nat → Int32) (n2 : Nat) (d : Int32) : Prop := 50 * EE f1 n1 f2 n2 d ≤ FF f1 g1 n1 f2 g2 n2 d
theorem cl_alg {a1 b1 a2 b2 : Int} : (a1 + 50 * b1) * b2 ≤ a2 * b1 ↔ 50 * (b1 * b2) ≤ a2 * b1 - a1 * b2 := by
  have e : (a1 + 50 * b1) * b2 = a1 * b2 + 50 * (b1 * b2) := by grind
  rw [e]
  omega
theorem ti_50 : (50 : Int32).toInt = 50 := by decide
section CC
variable {σ : St} {o0 o1 n1 n2 : Nat}
set_option maxHeartbeats 1000000 in
theorem clearAt_c (h1 : knOK (σ (o0 + 1)) (σ (o0 + 2)) n1) (c1 : σ o0 2 = nI n1) (h2 : knOK (σ (o1 + 1)) (σ (o1 + 2)) n2) (c2 : σ o1 2 = nI n2) {d : Int32} (hd : deg d) : ∃ r : Int32, ((r = 1 ∧ CL (σ (o0 + 1)) (σ (o0 + 2)) n1 (σ (o1 + 1)) (σ (o1 + 2)) n2 d) ∨ (r = 0 ∧ ¬ CL (σ (o0 + 1)) (σ (o0 + 2)) n1 (σ (o1 + 1)) (σ (o1 + 2)) n2 d)) ∧ ∀ Q : Int32 → St → Prop, Q r σ → wp_X7_isClearAt Q o0 o1 d σ := by
  obtain ⟨u1, u2, u3, _⟩ := gn_bl h1 hd
  obtain ⟨v1, v2, v3, _⟩ := gn_bl h2 hd
  obtain ⟨_, w1, w2⟩ := ab_eq h1 hd
  have e1 : ((50 : Int32) * blV (σ (o0 + 1)) n1 d).toInt = 50 * BL (σ (o0 + 1)) n1 d := by
    rw [ti_mul (by rw [ti_50]; show _ ≤ 50 * BL (σ (o0 + 1)) n1 d; omega) (by rw [ti_50]; show 50 * BL (σ (o0 + 1)) n1 d ≤ _; omega), ti_50]
    rfl
  have e2 : (abV (σ (o0 + 1)) (σ (o0 + 2)) n1 d + (50 : Int32) * blV (σ (o0 + 1)) n1 d).toInt = AB (σ (o0 + 1)) (σ (o0 + 2)) n1 d + 50 * BL (σ (o0 + 1)) n1 d := by
    rw [ti_add (by rw [e1]; show _ ≤ AB (σ (o0 + 1)) (σ (o0 + 2)) n1 d + 50 * BL (σ (o0 + 1)) n1 d; omega) (by rw [e1]; show AB (σ (o0 + 1)) (σ (o0 + 2)) n1 d + 50 * BL (σ (o0 + 1)) n1 d ≤ _; omega), e1]
    rfl
  have e3 : (((abV (σ (o0 + 1)) (σ (o0 + 2)) n1 d + (50 : Int32) * blV (σ (o0 + 1)) n1 d).toInt64) * ((blV (σ (o1 + 1)) n2 d).toInt64)).toInt = (AB (σ (o0 + 1)) (σ (o0 + 2)) n1 d + 50 * BL (σ (o0 + 1)) n1 d) * BL (σ (o1 + 1)) n2 d := by
    rw [tl_32, e2]
    rfl
  have e4 : (((abV (σ (o1 + 1)) (σ (o1 + 2)) n2 d).toInt64) * ((blV (σ (o0 + 1)) n1 d).toInt64)).toInt = AB (σ (o1 + 1)) (σ (o1 + 2)) n2 d * BL (σ (o0 + 1)) n1 d := tl_32
  have key : (0 < lg_cmp (((abV (σ (o0 + 1)) (σ (o0 + 2)) n1 d + (50 : Int32) * blV (σ (o0 + 1)) n1 d).toInt64) * ((blV (σ (o1 + 1)) n2 d).toInt64)) (((abV (σ (o1 + 1)) (σ (o1 + 2)) n2 d).toInt64) * ((blV (σ (o0 + 1)) n1 d).toInt64))) ↔ ¬ CL (σ (o0 + 1)) (σ (o0 + 2)) n1 (σ (o1 + 1)) (σ (o1 + 2)) n2 d := by
    rw [lg_cmp_gt, Int64.lt_iff_toInt_lt, e3, e4]
    have := cl_alg (a1 := AB (σ (o0 + 1)) (σ (o0 + 2)) n1 d) (b1 := BL (σ (o0 + 1)) n1 d) (a2 := AB (σ (o1 + 1)) (σ (o1 + 2)) n2 d) (b2 := BL (σ (o1 + 1)) n2 d)
    unfold CL EE FF
    rw [← this]
    omega
  by_cases z : CL (σ (o0 + 1)) (σ (o0 + 2)) n1 (σ (o1 + 1)) (σ (o1 + 2)) n2 d
  · refine ⟨1, Or.inl ⟨rfl, z⟩, fun Q q => below_c h1 c1 (above_c h1 c1 (below_c h2 c2 (fun x ex => above_c h2 c2 ?_)))⟩
    subst ex
    exact ⟨fun y => absurd z (key.mp y), fun _ => q⟩
  · refine ⟨0, Or.inr ⟨rfl, z⟩, fun Q q => below_c h1 c1 (above_c h1 c1 (below_c h2 c2 (fun x ex => above_c h2 c2 ?_)))⟩
    subst ex
    exact ⟨fun _ => q, fun y => absurd (key.mpr z) y⟩
theorem pair34 (h1 : knOK (σ (o0 + 1)) (σ (o0 + 2)) n1) (c1 : σ o0 2 = nI n1) (h2 : knOK (σ (o1 + 1)) (σ (o1 + 2)) n2) (c2 : σ o1 2 = nI n2) : ∀ (m i : Nat), i + m = n2 → ∃ r : Int32, ((r = 1 ∧ ∀ k, i ≤ k → k < n2 → CL (σ (o0 + 1)) (σ (o0 + 2)) n1 (σ (o1 + 1)) (σ (o1 + 2)) n2 (σ (o1 + 1) k)) ∨ (r = 0 ∧ ¬ ∀ k, i ≤ k → k < n2 → CL (σ (o0 + 1)) (σ (o0 + 2)) n1 (σ (o1 + 1)) (σ (o1 + 2)) n2 (σ (o1 + 1) k))) ∧ ∀ Q : Int32 → St → Prop, Q r σ → ∃ fu, wl_X7_isPairClear_34 Q o0 o1 fu σ (nI i) := by
  have hn := h2.2.1
  intro m
  induction m with
  | zero =>
    intro i hi
    have hle : (σ o1 2) ≤ nI i := by rw [c2]; exact nI_le (by omega) (by omega)
    exact ⟨1, Or.inl ⟨rfl, fun k z1 z2 => absurd z1 (by omega)⟩, fun Q q => ⟨1, ⟨fun _ => q, fun z => absurd hle z⟩⟩⟩
  | succ m ih =>
    intro i hi
    have hlt : ¬ (σ o1 2) ≤ nI i := by rw [c2]; exact nI_ge (by omega) (by omega)
    have ci : (nI i).toNatClampNeg = i := nI_clamp (by omega)
    have vi : vp_in (nI i) 6 := vp_in_nI (by omega) (by decide)
    obtain ⟨b, hb, hq⟩ := clearAt_c h1 c1 h2 c2 (h2.2.2.1 i (by omega)).1
    rcases hb with ⟨hb, hk⟩ | ⟨hb, hk⟩
    · obtain ⟨r, hr, he⟩ := ih (i + 1) (by omega)
      have hiff : (∀ k, i ≤ k → k < n2 → CL (σ (o0 + 1)) (σ (o0 + 2)) n1 (σ (o1 + 1)) (σ (o1 + 2)) n2 (σ (o1 + 1) k)) ↔ (∀ k, i + 1 ≤ k → k < n2 → CL (σ (o0 + 1)) (σ (o0 + 2)) n1 (σ (o1 + 1)) (σ (o1 + 2)) n2 (σ (o1 + 1) k)) := by
        refine ⟨fun z k z1 z2 => z k (by omega) z2, fun z k z1 z2 => ?_⟩
        by_cases y : k = i
        · rw [y]; exact hk
        · exact z k (by omega) z2
      refine ⟨r, by rw [hiff]; exact hr, fun Q q => ?_⟩
      obtain ⟨fu, hfu⟩ := he Q q
      refine ⟨fu + 1, ⟨fun z => absurd z hlt, fun _ => ⟨vi, ?_⟩⟩⟩
      rw [ci]
      refine hq _ ⟨fun _ x ex => ?_, fun z => absurd (hb.symm.trans z) (by decide)⟩
      subst ex
      rw [nI_1]
      exact hfu
    · refine ⟨0, Or.inr ⟨rfl, fun z => hk (z i (Nat.le_refl _) (by omega))⟩, fun Q q => ⟨1, ⟨fun z => absurd z hlt, fun _ => ⟨vi, ?_⟩⟩⟩⟩
      rw [ci]
      exact hq _ ⟨fun z => absurd hb z, fun _ => q⟩
theorem pair2 (h1 : knOK (σ (o0 + 1)) (σ (o0 + 2)) n1) (c1 : σ o0 2 = nI n1) (h2 : knOK (σ (o1 + 1)) (σ (o1 + 2)) n2) (c2 : σ o1 2 = nI n2) : ∀ (m i : Nat), i + m = n1 → ∃ r : Int32, ((r = 1 ∧ (∀ k, i ≤ k → k < n1 → CL (σ (o0 + 1)) (σ (o0 + 2)) n1 (σ (o1 + 1)) (σ (o1 + 2)) n2 (σ (o0 + 1) k)) ∧ ∀ k, 0 ≤ k → k < n2 → CL (σ (o0 + 1)) (σ (o0 + 2)) n1 (σ (o1 + 1)) (σ (o1 + 2)) n2 (σ (o1 + 1) k)) ∨ (r = 0 ∧ ¬ ((∀ k, i ≤ k → k < n1 → CL (σ (o0 + 1)) (σ (o0 + 2)) n1 (σ (o1 + 1)) (σ (o1 + 2)) n2 (σ (o0 + 1) k)) ∧ ∀ k, 0 ≤ k → k < n2 → CL (σ (o0 + 1)) (σ (o0 + 2)) n1 (σ (o1 + 1)) (σ (o1 + 2)) n2 (σ (o1 + 1) k)))) ∧ ∀ Q : Int32 → St → Prop, Q r σ → ∃ fu, wl_X7_isPairClear_2 Q o0 o1 fu σ (nI i) := by
  have hn := h1.2.1
  intro m
  induction m with
  | zero =>
    intro i hi
    have hle : (σ o0 2) ≤ nI i := by rw [c1]; exact nI_le (by omega) (by omega)
    obtain ⟨r, hr, he⟩ := pair34 h1 c1 h2 c2 n2 0 (by omega)
    have hv : ∀ k, i ≤ k → k < n1 → CL (σ (o0 + 1)) (σ (o0 + 2)) n1 (σ (o1 + 1)) (σ (o1 + 2)) n2 (σ (o0 + 1) k) := fun k z1 z2 => absurd z1 (by omega)
    refine ⟨r, ?_, fun Q q => ⟨1, ⟨fun _ => he Q q, fun z => absurd hle z⟩⟩⟩
    rcases hr with ⟨r1, hr⟩ | ⟨r0, hr⟩
    · exact Or.inl ⟨r1, hv, hr⟩
    · exact Or.inr ⟨r0, fun z => hr z.2⟩
  | succ m ih =>
    intro i hi
    have hlt : ¬ (σ o0 2) ≤ nI i := by rw [c1]; exact nI_ge (by omega) (by omega)
    have ci : (nI i).toNatClampNeg = i := nI_clamp (by omega)
    have vi : vp_in (nI i) 6 := vp_in_nI (by omega) (by decide)
    obtain ⟨b, hb, hq⟩ := clearAt_c h1 c1 h2 c2 (h1.2.2.1 i (by omega)).1
    rcases hb with ⟨hb, hk⟩ | ⟨hb, hk⟩
    · obtain ⟨r, hr, he⟩ := ih (i + 1) (by omega)
      have hiff : (∀ k, i ≤ k → k < n1 → CL (σ (o0 + 1)) (σ (o0 + 2)) n1 (σ (o1 + 1)) (σ (o1 + 2)) n2 (σ (o0 + 1) k)) ↔ (∀ k, i + 1 ≤ k → k < n1 → CL (σ (o0 + 1)) (σ (o0 + 2)) n1 (σ (o1 + 1)) (σ (o1 + 2)) n2 (σ (o0 + 1) k)) := by
        refine ⟨fun z k z1 z2 => z k (by omega) z2, fun z k z1 z2 => ?_⟩
        by_cases y : k = i
        · rw [y]; exact hk
        · exact z k (by omega) z2
      refine ⟨r, by rw [hiff]; exact hr, fun Q q => ?_⟩
      obtain ⟨fu, hfu⟩ := he Q q
      refine ⟨fu + 1, ⟨fun z => absurd z hlt, fun _ => ⟨vi, ?_⟩⟩⟩
      rw [ci]
      refine hq _ ⟨fun _ x ex => ?_, fun z => absurd (hb.symm.trans z) (by decide)⟩
      subst ex
      rw [nI_1]
      exact hfu
    · refine ⟨0, Or.inr ⟨rfl, fun z => hk (z.1 i (Nat.le_refl _) (by omega))⟩, fun Q q => ⟨1, ⟨fun z => absurd z hlt, fun _ => ⟨vi, ?_⟩⟩⟩⟩
      rw [ci]
      exact hq _ ⟨fun z => absurd hb z, fun _ => q⟩
theorem deg_ex {d : Int32} (h : deg d) : ∃ x : Nat, x < 360 ∧ (x : Int) = d.toInt ∧ d = nI x := by
  unfold deg at h
  obtain ⟨x, h1, h2, h3⟩ := nI_ex (x := d) h.1
  exact ⟨x, by omega, h1, h3⟩
theorem pair_c (h1 : knOK (σ (o0 + 1)) (σ (o0 + 2)) n1) (c1 : σ o0 2 = nI n1) (h2 : knOK (σ (o1 + 1)) (σ (o1 + 2)) n2) (c2 : σ o1 2 = nI n2) : ∃ r : Int32, ((r = 1 ∧ ∀ x, x < 360 → CL (σ (o0 + 1)) (σ (o0 + 2)) n1 (σ (o1 + 1)) (σ (o1 + 2)) n2 (nI x)) ∨ (r = 0 ∧ ¬ ∀ x, x < 360 → CL (σ (o0 + 1)) (σ (o0 + 2)) n1 (σ (o1 + 1)) (σ (o1 + 2)) n2 (nI x))) ∧ ∀ Q : Int32 → St → Prop, Q r σ → wp_X7_isPairClear Q o0 o1 σ := by
  obtain ⟨r, hr, he⟩ := pair2 h1 c1 h2 c2 n1 0 (by omega)
  refine ⟨r, ?_, fun Q q => he Q q⟩
  rcases hr with ⟨r1, hr, hr2⟩ | ⟨r0, hr⟩
  · refine Or.inl ⟨r1, clear_all h1 h2 (fun y hy hk => ?_)⟩
    rcases hk with ⟨k, k1, k2⟩ | ⟨k, k1, k2⟩
    · have e : σ (o0 + 1) k = nI y := Int32.toInt_inj.mp (by rw [k2, nI_toInt (by omega)])
      have := hr k (Nat.zero_le _) k1
      rw [e] at this
      exact this
    · have e : σ (o1 + 1) k = nI y := Int32.toInt_inj.mp (by rw [k2, nI_toInt (by omega)])
      have := hr2 k (Nat.zero_le _) k1
      rw [e] at this
      exact this
  · refine Or.inr ⟨r0, fun z => hr ⟨fun k _ k1 => ?_, fun k _ k1 => ?_⟩⟩
    · obtain ⟨x, x1, _, x2⟩ := deg_ex (h1.2.2.1 k k1).1
      rw [x2]; exact z x x1
    · obtain ⟨x, x1, _, x2⟩ := deg_ex (h2.2.2.1 k k1).1
      rw [x2]; exact z x x1
end CC
/-- the class's arms -/
def cArms (σ : St) (pm ct : Nat → Nat) : Prop := ∀ i, i < 3 → pm i < 4 ∧ σ 42 i = nI (43 + 3 * pm i) ∧ σ (43 + 3 * pm i) 2 = nI (ct i) ∧ knOK (σ (43 + 3 * pm i + 1)) (σ (43 + 3 * pm i + 2)) (ct i)
def pcl (σ : St) (pm ct : Nat → Nat) (i j : Nat) : Prop := ∀ x, x < 360 → CL (σ (43 + 3 * pm i + 1)) (σ (43 + 3 * pm i + 2)) (ct i) (σ (43 + 3 * pm j + 1)) (σ (43 + 3 * pm j + 2)) (ct j) (nI x)
theorem kcArm {p : Nat} (h : p < 4) : kcL.getD (43 + 3 * p) 999 = 4 := by
  rcases (show p = 0 ∨ p = 1 ∨ p = 2 ∨ p = 3 by omega) with rfl | rfl | rfl | rfl <;> rfl
section CI
variable {σ : St} {pm ct : Nat → Nat}
theorem clr_in (h : cArms σ pm ct) {i : Nat} (hi : i < 3) (Q : Int32 → St → Prop) (L2 : St → Int32 → Prop) : ∀ (m j : Nat), j + m = 3 →
    ((∀ k, j ≤ k → k < 3 → pcl σ pm ct i k) → L2 σ (nI (i + 1)) → ∃ fu, wl_X7_isClear_11 Q L2 (nI i) fu σ (nI j)) ∧ ((¬ ∀ k, j ≤ k → k < 3 → pcl σ pm ct i k) → Q 0 σ → ∃ fu, wl_X7_isClear_11 Q L2 (nI i) fu σ (nI j)) := by
  obtain ⟨i1, i2, i3, i4⟩ := h i hi
  have ci : (nI i).toNatClampNeg = i := nI_clamp (by omega)
  have vi : vp_in (nI i) 3 := vp_in_nI hi (by decide)
  have bi : (nI (43 + 3 * pm i)).toNatClampNeg = 43 + 3 * pm i := nI_clamp (by omega)
  intro m
  induction m with
  | zero =>
    intro j hj
    have hle : (3 : Int32) ≤ nI j := nI_le (a := 3) (by omega) (by omega)
    refine ⟨fun _ q => ⟨1, ⟨fun _ x ex => ?_, fun z => absurd hle z⟩⟩, fun z => absurd (fun k z1 z2 => absurd z1 (by omega)) z⟩
    subst ex
    rw [nI_1]
    exact q
  | succ m ih =>
    intro j hj
    have hlt : ¬ (3 : Int32) ≤ nI j := nI_ge (b := 3) (by omega) (by omega)
    obtain ⟨j1, j2, j3, j4⟩ := h j (by omega)
    have cj : (nI j).toNatClampNeg = j := nI_clamp (by omega)
    have vj : vp_in (nI j) 3 := vp_in_nI (by omega) (by decide)
    have bj : (nI (43 + 3 * pm j)).toNatClampNeg = 43 + 3 * pm j := nI_clamp (by omega)
    obtain ⟨b, hb, hq⟩ := pair_c i4 i3 j4 j3
    rcases hb with ⟨hb, hk⟩ | ⟨hb, hk⟩
    · obtain ⟨ih1, ih2⟩ := ih (j + 1) (by omega)
      have hiff : (∀ k, j ≤ k → k < 3 → pcl σ pm ct i k) ↔ (∀ k, j + 1 ≤ k → k < 3 → pcl σ pm ct i k) := by
        refine ⟨fun z k z1 z2 => z k (by omega) z2, fun z k z1 z2 => ?_⟩
        by_cases y : k = j
        · rw [y]; exact hk
        · exact z k (by omega) z2
      rw [hiff]
      refine ⟨fun z q => ?_, fun z q => ?_⟩
      · obtain ⟨fu, hfu⟩ := ih1 z q
        refine ⟨fu + 1, ⟨fun z => absurd z hlt, fun _ => ?_⟩⟩
        rw [ci, cj, i2, j2, bi, bj]
        refine ⟨vi, kcArm i1, vj, kcArm j1, hq _ ⟨fun _ x ex => ?_, fun z => absurd (hb.symm.trans z) (by decide)⟩⟩
        subst ex
        rw [nI_1]
        exact hfu
      · obtain ⟨fu, hfu⟩ := ih2 z q
        refine ⟨fu + 1, ⟨fun z => absurd z hlt, fun _ => ?_⟩⟩
        rw [ci, cj, i2, j2, bi, bj]
        refine ⟨vi, kcArm i1, vj, kcArm j1, hq _ ⟨fun _ x ex => ?_, fun z => absurd (hb.symm.trans z) (by decide)⟩⟩
        subst ex
        rw [nI_1]
        exact hfu
    · refine ⟨fun z => absurd (z j (Nat.le_refl _) (by omega)) hk, fun _ q => ⟨1, ⟨fun z => absurd z hlt, fun _ => ?_⟩⟩⟩
      rw [ci, cj, i2, j2, bi, bj]
      exact ⟨vi, kcArm i1, vj, kcArm j1, hq _ ⟨fun z => absurd hb z, fun _ => q⟩⟩
def allCl (σ : St) (pm ct : Nat → Nat) (i : Nat) : Prop := ∀ a b, i ≤ a → a < b → b < 3 → pcl σ pm ct a b
theorem allCl_s {i : Nat} : allCl σ pm ct i ↔ (∀ k, i + 1 ≤ k → k < 3 → pcl σ pm ct i k) ∧ allCl σ pm ct (i + 1) := by
  constructor
  · exact fun z => ⟨fun k z1 z2 => z i k (Nat.le_refl _) (by omega) z2, fun a b z1 z2 z3 => z a b (by omega) z2 z3⟩
  · intro z a b z1 z2 z3
    by_cases y : a = i
    · rw [y]; exact z.1 b (by omega) z3
    · exact z.2 a b (by omega) z2 z3
theorem clr_loop (h : cArms σ pm ct) : ∀ (m i : Nat), i + m = 3 → ∃ r : Int32, ((r = 1 ∧ allCl σ pm ct i) ∨ (r = 0 ∧ ¬ allCl σ pm ct i)) ∧ ∀ Q : Int32 → St → Prop, Q r σ → ∃ fu, wl_X7_isClear_2 Q fu σ (nI i) := by
  intro m
  induction m with
  | zero =>
    intro i hi
    have hle : (3 : Int32) ≤ nI i := nI_le (a := 3) (by omega) (by omega)
    exact ⟨1, Or.inl ⟨rfl, fun a b z1 z2 z3 => absurd z1 (by omega)⟩, fun Q q => ⟨1, ⟨fun _ => q, fun z => absurd hle z⟩⟩⟩
  | succ m ih =>
    intro i hi
    have hlt : ¬ (3 : Int32) ≤ nI i := nI_ge (b := 3) (by omega) (by omega)
    by_cases hk : ∀ k, i + 1 ≤ k → k < 3 → pcl σ pm ct i k
    · obtain ⟨r, hr, he⟩ := ih (i + 1) (by omega)
      have hiff : allCl σ pm ct i ↔ allCl σ pm ct (i + 1) := by
        rw [allCl_s]
        exact ⟨fun z => z.2, fun z => ⟨hk, z⟩⟩
      refine ⟨r, by rw [hiff]; exact hr, fun Q q => ?_⟩
      obtain ⟨fu, hfu⟩ := he Q q
      refine ⟨fu + 1, ⟨fun z => absurd z hlt, fun _ x ex => ?_⟩⟩
      subst ex
      rw [nI_1]
      exact (clr_in h (by omega) Q (wl_X7_isClear_2 Q fu) (2 - i) (i + 1) (by omega)).1 hk hfu
    · refine ⟨0, Or.inr ⟨rfl, fun z => hk (allCl_s.mp z).1⟩, fun Q q => ⟨1, ⟨fun z => absurd z hlt, fun _ x ex => ?_⟩⟩⟩
      subst ex
      rw [nI_1]
      exact (clr_in h (by omega) Q (wl_X7_isClear_2 Q 0) (2 - i) (i + 1) (by omega)).2 hk q
end CI
/-! the same, the reference's way: every degree -/
def scr (μ μ' : St) : Prop := (∀ c, c ≠ 0 → μ' c = μ c) ∧ ∀ k, k ≠ 41 → k ≠ 42 → μ' 0 k = μ 0 k
theorem scr_r {μ : St} : scr μ μ := ⟨fun _ _ => rfl, fun _ _ _ => rfl⟩
theorem scr_t {μ μ1 μ2 : St} (h : scr μ μ1) (h2 : scr μ1 μ2) : scr μ μ2 := ⟨fun c hc => (h2.1 c hc).trans (h.1 c hc), fun k k1 k2 => (h2.2 k k1 k2).trans (h.2 k k1 k2)⟩
theorem scr_1 {μ : St} {x y : Int32} : scr μ (up2 (up2 μ 0 41 x) 0 42 y) := ⟨fun c hc => by rw [up2_ne hc, up2_ne hc], fun k k1 k2 => by
  show upd (upd (μ 0) 41 x) 42 y k = μ 0 k
  rw [upd_ne k2, upd_ne k1]⟩
theorem mA_s {μ μ' : St} {i : Nat} {f g : Nat → Int32} {n : Nat} (h : scr μ μ') (hm : mA μ i f g n) : mA μ' i f g n := by
  unfold mA
  rw [h.1 7 (by omega), h.1 8 (by omega), h.1 9 (by omega)]
  exact hm
section MC
variable {f1 g1 f2 g2 : Nat → Int32} {n1 n2 : Nat}
set_option maxHeartbeats 1000000 in
theorem ac_d {i j : Nat} (hi : i < 3) (hj : j < 3) (h1 : knOK f1 g1 n1) (h2 : knOK f2 g2 n2) : ∀ (m x : Nat) (μ : St), x + m = 360 → mA μ i f1 g1 n1 → mA μ j f2 g2 n2 → ∃ μ' : St, scr μ μ' ∧
    ((∀ y, x ≤ y → y < 360 → CL f1 g1 n1 f2 g2 n2 (nI y)) → ∀ (Q : Int32 → St → Prop) (L2 L11 : St → Int32 → Prop), L11 μ' (nI (j + 1)) → ∃ fu, wl_X10_areClear_18 Q L2 L11 (nI i) (nI j) fu μ (nI x)) ∧
    ((¬ ∀ y, x ≤ y → y < 360 → CL f1 g1 n1 f2 g2 n2 (nI y)) → ∀ (Q : Int32 → St → Prop) (L2 L11 : St → Int32 → Prop), Q 0 μ' → ∃ fu, wl_X10_areClear_18 Q L2 L11 (nI i) (nI j) fu μ (nI x)) := by
  intro m
  induction m with
  | zero =>
    intro x μ hx m1 m2
    have hle : (360 : Int32) ≤ nI x := nI_le (a := 360) (by omega) (by omega)
    refine ⟨μ, scr_r, fun _ Q L2 L11 q => ⟨1, ⟨fun _ y ey => ?_, fun z => absurd hle z⟩⟩, fun z => absurd (fun k z1 z2 => absurd z1 (by omega)) z⟩
    subst ey
    rw [nI_1]
    exact q
  | succ m ih =>
    intro x μ hx m1 m2
    have hlt : ¬ (360 : Int32) ≤ nI x := nI_ge (b := 360) (by omega) (by omega)
    have hd : deg (nI x) := deg_nI (by omega)
    obtain ⟨u1, u2, u3, _⟩ := gn_bl h1 hd
    obtain ⟨v1, v2, v3, _⟩ := gn_bl h2 hd
    obtain ⟨_, w1, w2⟩ := ab_eq h1 hd
    obtain ⟨_, w3, w4⟩ := ab_eq h2 hd
    have s1 := scr_1 (μ := μ) (x := abV f1 g1 n1 (nI x)) (y := blV f1 n1 (nI x))
    have s2 := scr_t s1 (scr_1 (x := abV f2 g2 n2 (nI x)) (y := blV f2 n2 (nI x)))
    have t50 : (50 : Int64).toInt = 50 := by decide
    have e0 : ((50 : Int64) * (blV f1 n1 (nI x)).toInt64).toInt = 50 * BL f1 n1 (nI x) := by
      rw [tl_mul (by rw [t50, Int32.toInt_toInt64]; show _ ≤ 50 * BL f1 n1 (nI x); omega) (by rw [t50, Int32.toInt_toInt64]; show 50 * BL f1 n1 (nI x) ≤ _; omega), t50, Int32.toInt_toInt64]
      rfl
    have e1 : ((abV f1 g1 n1 (nI x)).toInt64 + (50 : Int64) * (blV f1 n1 (nI x)).toInt64).toInt = AB f1 g1 n1 (nI x) + 50 * BL f1 n1 (nI x) := by
      rw [tl_add (by rw [e0, Int32.toInt_toInt64]; show _ ≤ AB f1 g1 n1 (nI x) + 50 * BL f1 n1 (nI x); omega) (by rw [e0, Int32.toInt_toInt64]; show AB f1 g1 n1 (nI x) + 50 * BL f1 n1 (nI x) ≤ _; omega), e0, Int32.toInt_toInt64]
      rfl
    have b1 := mul_bd (x := AB f1 g1 n1 (nI x) + 50 * BL f1 n1 (nI x)) (y := BL f2 n2 (nI x)) (A := 378000) (B := 360) (by omega) (by omega) (by omega) (by omega)
    have e2 : (((abV f1 g1 n1 (nI x)).toInt64 + (50 : Int64) * (blV f1 n1 (nI x)).toInt64) * (blV f2 n2 (nI x)).toInt64).toInt = (AB f1 g1 n1 (nI x) + 50 * BL f1 n1 (nI x)) * BL f2 n2 (nI x) := by
      rw [tl_mul (by rw [e1, Int32.toInt_toInt64]; show _ ≤ (AB f1 g1 n1 (nI x) + 50 * BL f1 n1 (nI x)) * BL f2 n2 (nI x); omega) (by rw [e1, Int32.toInt_toInt64]; show (AB f1 g1 n1 (nI x) + 50 * BL f1 n1 (nI x)) * BL f2 n2 (nI x) ≤ _; omega), e1, Int32.toInt_toInt64]
      rfl
    have e3 : (((abV f2 g2 n2 (nI x)).toInt64) * ((blV f1 n1 (nI x)).toInt64)).toInt = AB f2 g2 n2 (nI x) * BL f1 n1 (nI x) := tl_32
    have key : (lg_cmp (((abV f1 g1 n1 (nI x)).toInt64 + (50 : Int64) * (blV f1 n1 (nI x)).toInt64) * (blV f2 n2 (nI x)).toInt64) (((abV f2 g2 n2 (nI x)).toInt64) * ((blV f1 n1 (nI x)).toInt64)) ≤ 0) ↔ CL f1 g1 n1 f2 g2 n2 (nI x) := by
      rw [lg_cmp_le, Int64.le_iff_toInt_le, e2, e3]
      exact cl_alg
    by_cases hk : CL f1 g1 n1 f2 g2 n2 (nI x)
    · obtain ⟨μ', s3, g1', g2'⟩ := ih (x + 1) _ (by omega) (mA_s s2 m1) (mA_s s2 m2)
      have hiff : (∀ y, x ≤ y → y < 360 → CL f1 g1 n1 f2 g2 n2 (nI y)) ↔ (∀ y, x + 1 ≤ y → y < 360 → CL f1 g1 n1 f2 g2 n2 (nI y)) := by
        refine ⟨fun z k z1 z2 => z k (by omega) z2, fun z k z1 z2 => ?_⟩
        by_cases y : k = x
        · rw [y]; exact hk
        · exact z k (by omega) z2
      rw [hiff]
      refine ⟨μ', scr_t s2 s3, fun z Q L2 L11 q => ?_, fun z Q L2 L11 q => ?_⟩
      · obtain ⟨fu, hfu⟩ := g1' z Q L2 L11 q
        refine ⟨fu + 1, ⟨fun z => absurd z hlt, fun _ => find_m hi h1 m1 hd (fun y ey w ew => find_m hj h2 (mA_s s1 m2) hd ?_)⟩⟩
        subst ew; subst ey
        refine ⟨fun _ y ey => ?_, fun z => absurd (key.mpr hk) z⟩
        subst ey
        rw [nI_1]
        exact hfu
      · obtain ⟨fu, hfu⟩ := g2' z Q L2 L11 q
        refine ⟨fu + 1, ⟨fun z => absurd z hlt, fun _ => find_m hi h1 m1 hd (fun y ey w ew => find_m hj h2 (mA_s s1 m2) hd ?_)⟩⟩
        subst ew; subst ey
        refine ⟨fun _ y ey => ?_, fun z => absurd (key.mpr hk) z⟩
        subst ey
        rw [nI_1]
        exact hfu
    · refine ⟨_, s2, fun z => absurd (z x (Nat.le_refl _) (by omega)) hk, fun _ Q L2 L11 q => ⟨1, ⟨fun z => absurd z hlt, fun _ => find_m hi h1 m1 hd (fun y ey w ew => find_m hj h2 (mA_s s1 m2) hd ?_)⟩⟩⟩
      subst ew; subst ey
      exact ⟨fun z => absurd (key.mp z) hk, fun _ => q⟩
end MC
section MI
variable {σ : St} {pm ct : Nat → Nat}
def mArms (μ σ : St) (pm ct : Nat → Nat) : Prop := ∀ i, i < 3 → mA μ i (σ (43 + 3 * pm i + 1)) (σ (43 + 3 * pm i + 2)) (ct i)
theorem mArms_s {μ μ' : St} (h : scr μ μ') (hm : mArms μ σ pm ct) : mArms μ' σ pm ct := fun i hi => mA_s h (hm i hi)
theorem ac_in (h : cArms σ pm ct) {i : Nat} (hi : i < 3) : ∀ (m j : Nat) (μ : St), j + m = 3 → mArms μ σ pm ct → ∃ μ' : St, scr μ μ' ∧
    ((∀ k, j ≤ k → k < 3 → pcl σ pm ct i k) → ∀ (Q : Int32 → St → Prop) (L2 : St → Int32 → Prop), L2 μ' (nI (i + 1)) → ∃ fu, wl_X10_areClear_11 Q L2 (nI i) fu μ (nI j)) ∧ ((¬ ∀ k, j ≤ k → k < 3 → pcl σ pm ct i k) → ∀ (Q : Int32 → St → Prop) (L2 : St → Int32 → Prop), Q 0 μ' → ∃ fu, wl_X10_areClear_11 Q L2 (nI i) fu μ (nI j)) := by
  obtain ⟨i1, i2, i3, i4⟩ := h i hi
  intro m
  induction m with
  | zero =>
    intro j μ hj hm
    have hle : (3 : Int32) ≤ nI j := nI_le (a := 3) (by omega) (by omega)
    refine ⟨μ, scr_r, fun _ Q L2 q => ⟨1, ⟨fun _ x ex => ?_, fun z => absurd hle z⟩⟩, fun z => absurd (fun k z1 z2 => absurd z1 (by omega)) z⟩
    subst ex
    rw [nI_1]
    exact q
  | succ m ih =>
    intro j μ hj hm
    have hlt : ¬ (3 : Int32) ≤ nI j := nI_ge (b := 3) (by omega) (by omega)
    obtain ⟨j1, j2, j3, j4⟩ := h j (by omega)
    obtain ⟨μ1, s1, p1, p2⟩ := ac_d hi (show j < 3 by omega) i4 j4 360 0 μ rfl (hm i hi) (hm j (by omega))
    by_cases hk : pcl σ pm ct i j
    · obtain ⟨μ2, s2, ih1, ih2⟩ := ih (j + 1) μ1 (by omega) (mArms_s s1 hm)
      have hiff : (∀ k, j ≤ k → k < 3 → pcl σ pm ct i k) ↔ (∀ k, j + 1 ≤ k → k < 3 → pcl σ pm ct i k) := by
        refine ⟨fun z k z1 z2 => z k (by omega) z2, fun z k z1 z2 => ?_⟩
        by_cases y : k = j
        · rw [y]; exact hk
        · exact z k (by omega) z2
      rw [hiff]
      refine ⟨μ2, scr_t s1 s2, fun z Q L2 q => ?_, fun z Q L2 q => ?_⟩
      · obtain ⟨fu, hfu⟩ := ih1 z Q L2 q
        exact ⟨fu + 1, ⟨fun z => absurd z hlt, fun _ => p1 (fun y _ hy => hk y hy) Q L2 _ hfu⟩⟩
      · obtain ⟨fu, hfu⟩ := ih2 z Q L2 q
        exact ⟨fu + 1, ⟨fun z => absurd z hlt, fun _ => p1 (fun y _ hy => hk y hy) Q L2 _ hfu⟩⟩
    · exact ⟨μ1, s1, fun z => absurd (z j (Nat.le_refl _) (by omega)) hk, fun _ Q L2 q => ⟨1, ⟨fun z => absurd z hlt, fun _ => p2 (fun z => hk (fun y hy => z y (Nat.zero_le _) hy)) Q L2 _ q⟩⟩⟩
theorem ac_loop (h : cArms σ pm ct) : ∀ (m i : Nat) (μ : St), i + m = 3 → mArms μ σ pm ct → ∃ (r : Int32) (μ' : St), scr μ μ' ∧ ((r = 1 ∧ allCl σ pm ct i) ∨ (r = 0 ∧ ¬ allCl σ pm ct i)) ∧ ∀ Q : Int32 → St → Prop, Q r μ' → ∃ fu, wl_X10_areClear_2 Q fu μ (nI i) := by
  intro m
  induction m with
  | zero =>
    intro i μ hi hm
    have hle : (3 : Int32) ≤ nI i := nI_le (a := 3) (by omega) (by omega)
    exact ⟨1, μ, scr_r, Or.inl ⟨rfl, fun a b z1 z2 z3 => absurd z1 (by omega)⟩, fun Q q => ⟨1, ⟨fun _ => q, fun z => absurd hle z⟩⟩⟩
  | succ m ih =>
    intro i μ hi hm
    have hlt : ¬ (3 : Int32) ≤ nI i := nI_ge (b := 3) (by omega) (by omega)
    obtain ⟨μ1, s1, p1, p2⟩ := ac_in h (show i < 3 by omega) (2 - i) (i + 1) μ (by omega) hm
    by_cases hk : ∀ k, i + 1 ≤ k → k < 3 → pcl σ pm ct i k
    · obtain ⟨r, μ2, s2, hr, he⟩ := ih (i + 1) μ1 (by omega) (mArms_s s1 hm)
      have hiff : allCl σ pm ct i ↔ allCl σ pm ct (i + 1) := by
        rw [allCl_s]
        exact ⟨fun z => z.2, fun z => ⟨hk, z⟩⟩
      refine ⟨r, μ2, scr_t s1 s2, by rw [hiff]; exact hr, fun Q q => ?_⟩
      obtain ⟨fu, hfu⟩ := he Q q
      refine ⟨fu + 1, ⟨fun z => absurd z hlt, fun _ x ex => ?_⟩⟩
      subst ex
      rw [nI_1]
      exact p1 hk Q _ hfu
    · refine ⟨0, μ1, s1, Or.inr ⟨rfl, fun z => hk (allCl_s.mp z).1⟩, fun Q q => ⟨1, ⟨fun z => absurd z hlt, fun _ x ex => ?_⟩⟩⟩
      subst ex
      rw [nI_1]
      exact p2 hk Q (wl_X10_areClear_2 Q 0) q
end MI
