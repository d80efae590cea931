/-! drums: one becomes another -/
set_option maxHeartbeats 1000000 in
theorem become_c {o0 o1 : Nat} (h1 : o1 + 1 ≠ o0 + 2) (h2 : o1 + 2 ≠ o0 + 1) : ∀ (m i : Nat) (σ : St), i + m = 8 →
    ∃ σ' : St, (∀ c, c ≠ o0 + 1 → c ≠ o0 + 2 → σ' c = σ c) ∧ (∀ j, j < 8 → σ' (o0 + 1) j = if i ≤ j then σ (o1 + 1) j else σ (o0 + 1) j) ∧ (∀ j, j < 8 → σ' (o0 + 2) j = if i ≤ j then σ (o1 + 2) j else σ (o0 + 2) j) ∧
      ∀ Q : St → Prop, Q σ' → ∃ fu, wl_X2_become_2 Q o0 o1 fu σ (nI i) := by
  intro m
  induction m with
  | zero =>
    intro i σ hi
    have hle : (8 : Int32) ≤ nI i := nI_le (a := 8) (by omega) (by omega)
    refine ⟨σ, fun _ _ _ => rfl, fun j hj => ?_, fun j hj => ?_, fun Q q => ⟨1, ⟨fun _ => q, fun z => absurd hle z⟩⟩⟩
    · rw [if_neg (by omega)]
    · rw [if_neg (by omega)]
  | succ m ih =>
    intro i σ hi
    have hlt : ¬ (8 : Int32) ≤ nI i := nI_ge (b := 8) (by omega) (by omega)
    have ci : (nI i).toNatClampNeg = i := nI_clamp (by omega)
    have vi : vp_in (nI i) 8 := vp_in_nI (by omega) (by decide)
    have a1 : ∀ x y : Int32, up2 (up2 σ (o0 + 1) i x) (o0 + 2) i y (o0 + 1) = upd (σ (o0 + 1)) i x := fun x y => by rw [up2_ne (by omega), up2_eq]
    have a2 : ∀ x y : Int32, up2 (up2 σ (o0 + 1) i x) (o0 + 2) i y (o0 + 2) = upd (σ (o0 + 2)) i y := fun x y => by rw [up2_eq, up2_ne (by omega)]
    have a3 : ∀ x : Int32, up2 σ (o0 + 1) i x (o1 + 2) = σ (o1 + 2) := fun x => up2_ne h2
    have a4 : ∀ (x y : Int32) (j : Nat), j ≠ i → up2 (up2 σ (o0 + 1) i x) (o0 + 2) i y (o1 + 1) j = σ (o1 + 1) j := fun x y j hj => by
      by_cases e : o1 = o0
      · rw [e, a1, upd_ne hj]
      · rw [up2_ne h1, up2_ne (by omega)]
    have a5 : ∀ (x y : Int32) (j : Nat), j ≠ i → up2 (up2 σ (o0 + 1) i x) (o0 + 2) i y (o1 + 2) j = σ (o1 + 2) j := fun x y j hj => by
      by_cases e : o1 = o0
      · rw [e, a2, upd_ne hj]
      · rw [up2_ne (by omega), up2_ne h2]
    obtain ⟨σ', g1, g2, g3, g4⟩ := ih (i + 1) (up2 (up2 σ (o0 + 1) i (σ (o1 + 1) i)) (o0 + 2) i (σ (o1 + 2) i)) (by omega)
    refine ⟨σ', fun c c1 c2 => by rw [g1 c c1 c2, up2_ne c2, up2_ne c1], fun j hj => ?_, fun j hj => ?_, fun Q q => ?_⟩
    · rw [g2 j hj]
      by_cases z : i + 1 ≤ j
      · rw [if_pos z, if_pos (by omega), a4 _ _ _ (by omega)]
      · rw [if_neg z, a1]
        by_cases y : j = i
        · rw [y, upd_eq, if_pos (Nat.le_refl _)]
        · rw [upd_ne y, if_neg (by omega)]
    · rw [g3 j hj]
      by_cases z : i + 1 ≤ j
      · rw [if_pos z, if_pos (by omega), a5 _ _ _ (by omega)]
      · rw [if_neg z, a2]
        by_cases y : j = i
        · rw [y, upd_eq, if_pos (Nat.le_refl _)]
        · rw [upd_ne y, if_neg (by omega)]
    · obtain ⟨fu, hfu⟩ := g4 Q q
      refine ⟨fu + 1, ⟨fun z => absurd z hlt, fun _ => ⟨vi, vi, fun x ex => ⟨vi, vi, fun y ey w ew => ?_⟩⟩⟩⟩
      subst ew; subst ey; subst ex
      rw [ci, a3, nI_1]
      exact hfu
theorem idx8n {s i : Nat} (hs : s < 6) (hi : i < 8) : vp_in ((8 : Int32) * nI s + nI i) 48 ∧ ((8 : Int32) * nI s + nI i).toNatClampNeg = 8 * s + i := by
  obtain ⟨e1, e2, e3⟩ := idx8 hs (v := nI i) (vp_in_nI hi (by decide))
  rw [nI_clamp (by omega)] at e3
  exact ⟨e2, e3⟩
set_option maxHeartbeats 1000000 in
theorem copy_m {s t : Nat} (hs : s < 6) (ht : t < 6) : ∀ (m i : Nat) (μ : St), i + m = 8 →
    ∃ μ' : St, (∀ c, c ≠ 1 → c ≠ 2 → μ' c = μ c) ∧ (∀ k, μ' 1 k = if 8 * s + i ≤ k ∧ k < 8 * s + 8 then μ 1 (k - 8 * s + 8 * t) else μ 1 k) ∧ (∀ k, μ' 2 k = if 8 * s + i ≤ k ∧ k < 8 * s + 8 then μ 2 (k - 8 * s + 8 * t) else μ 2 k) ∧
      ∀ Q : Int32 → St → Prop, Q 1 μ' → ∃ fu, wl_X10_copy_18 Q (nI s) (nI t) fu μ (nI i) := by
  intro m
  induction m with
  | zero =>
    intro i μ hi
    have hle : (8 : Int32) ≤ nI i := nI_le (a := 8) (by omega) (by omega)
    refine ⟨μ, fun _ _ _ => rfl, fun j => ?_, fun j => ?_, fun Q q => ⟨1, ⟨fun _ => q, fun z => absurd hle z⟩⟩⟩
    · rw [if_neg (by omega)]
    · rw [if_neg (by omega)]
  | succ m ih =>
    intro i μ hi
    have hlt : ¬ (8 : Int32) ≤ nI i := nI_ge (b := 8) (by omega) (by omega)
    obtain ⟨vs, cs⟩ := idx8n (i := i) hs (by omega)
    obtain ⟨vt, ct⟩ := idx8n (i := i) ht (by omega)
    have a1 : ∀ x y : Int32, up2 (up2 μ 1 (8 * s + i) x) 2 (8 * s + i) y 1 = upd (μ 1) (8 * s + i) x := fun x y => rfl
    have a2 : ∀ x y : Int32, up2 (up2 μ 1 (8 * s + i) x) 2 (8 * s + i) y 2 = upd (μ 2) (8 * s + i) y := fun x y => rfl
    obtain ⟨μ', g1, g2, g3, g4⟩ := ih (i + 1) (up2 (up2 μ 1 (8 * s + i) (μ 1 (8 * t + i))) 2 (8 * s + i) (μ 2 (8 * t + i))) (by omega)
    refine ⟨μ', fun c c1 c2 => by rw [g1 c c1 c2, up2_ne c2, up2_ne c1], fun j => ?_, fun j => ?_, fun Q q => ?_⟩
    · rw [g2 j, a1]
      by_cases z : 8 * s + (i + 1) ≤ j ∧ j < 8 * s + 8
      · rw [if_pos z, if_pos (by omega), upd_ne (by omega)]
      · rw [if_neg z]
        by_cases y : j = 8 * s + i
        · rw [y, upd_eq, if_pos (by omega), show 8 * s + i - 8 * s + 8 * t = 8 * t + i from by omega]
        · rw [upd_ne y, if_neg (by omega)]
    · rw [g3 j, a2]
      by_cases z : 8 * s + (i + 1) ≤ j ∧ j < 8 * s + 8
      · rw [if_pos z, if_pos (by omega), upd_ne (by omega)]
      · rw [if_neg z]
        by_cases y : j = 8 * s + i
        · rw [y, upd_eq, if_pos (by omega), show 8 * s + i - 8 * s + 8 * t = 8 * t + i from by omega]
        · rw [upd_ne y, if_neg (by omega)]
    · obtain ⟨fu, hfu⟩ := g4 Q q
      refine ⟨fu + 1, ⟨fun z => absurd z hlt, fun _ => ⟨vt, vs, fun x ex => ⟨vt, vs, fun y ey w ew => ?_⟩⟩⟩⟩
      subst ew; subst ey; subst ex
      rw [cs, ct, nI_1]
      exact hfu
/-! drums: a turn -/
theorem xor_sgn (a b : Int32) : (0 ≤ a ^^^ b) ↔ ((0 ≤ a.toInt ∧ 0 ≤ b.toInt) ∨ (a.toInt < 0 ∧ b.toInt < 0)) := by
  have m : (a.toBitVec ^^^ b.toBitVec).msb = (a.toBitVec.msb ^^ b.toBitVec.msb) := BitVec.msb_xor
  rw [BitVec.msb_eq_toInt, BitVec.msb_eq_toInt, BitVec.msb_eq_toInt] at m
  have e1 : (a ^^^ b).toInt = (a.toBitVec ^^^ b.toBitVec).toInt := rfl
  have e2 : a.toInt = a.toBitVec.toInt := rfl
  have e3 : b.toInt = b.toBitVec.toInt := rfl
  have z0 : (0 : Int32).toInt = 0 := by decide
  rw [Int32.le_iff_toInt_le, e1, e2, e3, z0]
  generalize (a.toBitVec ^^^ b.toBitVec).toInt = X at m ⊢
  generalize a.toBitVec.toInt = A at m ⊢
  generalize b.toBitVec.toInt = B at m ⊢
  by_cases ha : A < 0 <;> by_cases hb : B < 0 <;> by_cases hx : X < 0 <;> simp [ha, hb, hx] at m <;> omega
def trn (x y : Int32) : Int32 := jrem ((x + y) + 360) 360
theorem trn_ti {x y : Int32} (hx : deg x) (h1 : -359 ≤ y.toInt) (h2 : y.toInt ≤ 359) : (trn x y).toInt = (x.toInt + y.toInt) % 360 := by
  unfold deg at hx
  have e : (x + y).toInt = x.toInt + y.toInt := ti_add (by omega) (by omega)
  have e2 : (x + y + 360).toInt = x.toInt + y.toInt + 360 := by rw [ti_add (by rw [e, ti_360]; omega) (by rw [e, ti_360]; omega), e, ti_360]
  have h := jrem_pos (a := x + y + 360) (by rw [e2]; omega) (d := 360) (by decide) (by decide)
  have h2 : (jrem (x + y + 360) 360).toInt = (x + y + 360).toInt % ((360 : Nat) : Int) := h
  unfold trn
  rw [h2, e2]
  omega
theorem trn_deg {x y : Int32} (hx : deg x) (h1 : -359 ≤ y.toInt) (h2 : y.toInt ≤ 359) : deg (trn x y) := by
  unfold deg
  rw [trn_ti hx h1 h2]
  omega
theorem jrem_neg {v : Int32} (h1 : -360 < v.toInt) (h2 : v.toInt < 0) : jrem v 360 = v := by
  have e : v / 360 = 0 := by
    apply Int32.toInt_inj.mp
    rw [Int32.toInt_div, ti_360]
    obtain ⟨k, hk⟩ : ∃ k : Nat, v.toInt = -(k : Int) := ⟨(-v.toInt).toNat, by omega⟩
    rw [hk, Int.neg_tdiv, Int.tdiv_eq_zero_of_lt (by omega) (by omega)]
    decide
  unfold jrem
  rw [e]
  simp
theorem fmod_c {x y : Int32} (hx : deg x) (h1 : -359 ≤ y.toInt) (h2 : y.toInt ≤ 359) {σ : St} {Q : Int32 → St → Prop} (q : Q (trn x y) σ) : wp_J9_floorMod_7cf53 Q (x + y) 360 σ := by
  have ht := trn_ti hx h1 h2
  have hx' := hx
  unfold deg at hx'
  have e : (x + y).toInt = x.toInt + y.toInt := ti_add (by omega) (by omega)
  have xs := xor_sgn (x + y) 360
  rw [e, ti_360] at xs
  refine ⟨by decide, fun r er => ?_⟩
  subst er
  by_cases hs : 0 ≤ x.toInt + y.toInt
  · have er : jrem (x + y) 360 = trn x y := by
      apply Int32.toInt_inj.mp
      have h := jrem_pos (a := x + y) (by rw [e]; omega) (d := 360) (by decide) (by decide)
      have h2 : (jrem (x + y) 360).toInt = (x + y).toInt % ((360 : Nat) : Int) := h
      rw [h2, ht, e]
      omega
    rw [er]
    exact ⟨fun _ => q, fun z => absurd (xs.mpr (by omega)) z⟩
  · have er := jrem_neg (v := x + y) (by omega) (by omega)
    rw [er]
    refine ⟨fun z => absurd (xs.mp z) (by omega), fun _ => ⟨fun z => ?_, fun z => ?_⟩⟩
    · rw [z] at e
      exact absurd e (by simp; omega)
    · have e3 : (x + y) + 360 = trn x y := by
        apply Int32.toInt_inj.mp
        rw [ht, ti_add (by rw [e, ti_360]; omega) (by rw [e, ti_360]; omega), e, ti_360]
        omega
      rw [e3]
      exact q
set_option maxHeartbeats 1000000 in
theorem shift_c {o0 : Nat} {y : Int32} (y1 : -359 ≤ y.toInt) (y2 : y.toInt ≤ 359) : ∀ (m i : Nat) (σ : St), i + m = 8 → (∀ j, j < 8 → deg (σ (o0 + 1) j) ∧ deg (σ (o0 + 2) j)) →
    ∃ σ' : St, (∀ c, c ≠ o0 + 1 → c ≠ o0 + 2 → σ' c = σ c) ∧ (∀ j, j < 8 → σ' (o0 + 1) j = if i ≤ j then trn (σ (o0 + 1) j) y else σ (o0 + 1) j) ∧ (∀ j, j < 8 → σ' (o0 + 2) j = if i ≤ j then trn (σ (o0 + 2) j) y else σ (o0 + 2) j) ∧
      ∀ Q : St → Prop, Q σ' → ∃ fu, wl_X2_shift_2 Q o0 y fu σ (nI i) := by
  intro m
  induction m with
  | zero =>
    intro i σ hi hd
    have hle : (8 : Int32) ≤ nI i := nI_le (a := 8) (by omega) (by omega)
    refine ⟨σ, fun _ _ _ => rfl, fun j hj => ?_, fun j hj => ?_, fun Q q => ⟨1, ⟨fun _ => q, fun z => absurd hle z⟩⟩⟩
    · rw [if_neg (by omega)]
    · rw [if_neg (by omega)]
  | succ m ih =>
    intro i σ hi hd
    have hlt : ¬ (8 : Int32) ≤ nI i := nI_ge (b := 8) (by omega) (by omega)
    have ci : (nI i).toNatClampNeg = i := nI_clamp (by omega)
    have vi : vp_in (nI i) 8 := vp_in_nI (by omega) (by decide)
    have a1 : ∀ x y : Int32, up2 (up2 σ (o0 + 1) i x) (o0 + 2) i y (o0 + 1) = upd (σ (o0 + 1)) i x := fun x y => by rw [up2_ne (by omega), up2_eq]
    have a2 : ∀ x y : Int32, up2 (up2 σ (o0 + 1) i x) (o0 + 2) i y (o0 + 2) = upd (σ (o0 + 2)) i y := fun x y => by rw [up2_eq, up2_ne (by omega)]
    have a3 : ∀ x : Int32, up2 σ (o0 + 1) i x (o0 + 2) = σ (o0 + 2) := fun x => up2_ne (by omega)
    have di := hd i (by omega)
    obtain ⟨σ', g1, g2, g3, g4⟩ := ih (i + 1) (up2 (up2 σ (o0 + 1) i (trn (σ (o0 + 1) i) y)) (o0 + 2) i (trn (σ (o0 + 2) i) y)) (by omega) (fun j hj => by
      rw [a1, a2]
      by_cases z : j = i
      · rw [z, upd_eq, upd_eq]; exact ⟨trn_deg di.1 y1 y2, trn_deg di.2 y1 y2⟩
      · rw [upd_ne z, upd_ne z]; exact hd j hj)
    refine ⟨σ', fun c c1 c2 => by rw [g1 c c1 c2, up2_ne c2, up2_ne c1], fun j hj => ?_, fun j hj => ?_, fun Q q => ?_⟩
    · rw [g2 j hj, a1]
      by_cases z : i + 1 ≤ j
      · rw [if_pos z, if_pos (by omega), upd_ne (by omega)]
      · rw [if_neg z]
        by_cases y : j = i
        · rw [y, upd_eq, if_pos (Nat.le_refl _)]
        · rw [upd_ne y, if_neg (by omega)]
    · rw [g3 j hj, a2]
      by_cases z : i + 1 ≤ j
      · rw [if_pos z, if_pos (by omega), upd_ne (by omega)]
      · rw [if_neg z]
        by_cases y : j = i
        · rw [y, upd_eq, if_pos (Nat.le_refl _)]
        · rw [upd_ne y, if_neg (by omega)]
    · obtain ⟨fu, hfu⟩ := g4 Q q
      refine ⟨fu + 1, ⟨fun z => absurd z hlt, fun _ => ⟨vi, ?_⟩⟩⟩
      rw [ci]
      refine fmod_c di.1 y1 y2 ⟨vi, fun x ex => ⟨vi, ?_⟩⟩
      subst ex
      rw [a3]
      refine fmod_c di.2 y1 y2 ⟨vi, fun x ex w ew => ?_⟩
      subst ew; subst ex
      rw [nI_1]
      exact hfu
set_option maxHeartbeats 1000000 in
theorem turn_m {s : Nat} (hs : s < 6) {y : Int32} : ∀ (m i : Nat) (μ : St), i + m = 8 →
    ∃ μ' : St, (∀ c, c ≠ 1 → c ≠ 2 → μ' c = μ c) ∧ (∀ k, μ' 1 k = if 8 * s + i ≤ k ∧ k < 8 * s + 8 then trn (μ 1 k) y else μ 1 k) ∧ (∀ k, μ' 2 k = if 8 * s + i ≤ k ∧ k < 8 * s + 8 then trn (μ 2 k) y else μ 2 k) ∧
      ∀ Q : Int32 → St → Prop, Q 1 μ' → ∃ fu, wl_X10_turn_24 Q (nI s) y fu μ (nI i) := by
  intro m
  induction m with
  | zero =>
    intro i μ hi
    have hle : (8 : Int32) ≤ nI i := nI_le (a := 8) (by omega) (by omega)
    refine ⟨μ, fun _ _ _ => rfl, fun j => ?_, fun j => ?_, fun Q q => ⟨1, ⟨fun _ => q, fun z => absurd hle z⟩⟩⟩
    · rw [if_neg (by omega)]
    · rw [if_neg (by omega)]
  | succ m ih =>
    intro i μ hi
    have hlt : ¬ (8 : Int32) ≤ nI i := nI_ge (b := 8) (by omega) (by omega)
    obtain ⟨vs, cs⟩ := idx8n (i := i) hs (by omega)
    have a1 : ∀ x y : Int32, up2 (up2 μ 1 (8 * s + i) x) 2 (8 * s + i) y 1 = upd (μ 1) (8 * s + i) x := fun x y => rfl
    have a2 : ∀ x y : Int32, up2 (up2 μ 1 (8 * s + i) x) 2 (8 * s + i) y 2 = upd (μ 2) (8 * s + i) y := fun x y => rfl
    obtain ⟨μ', g1, g2, g3, g4⟩ := ih (i + 1) (up2 (up2 μ 1 (8 * s + i) (trn (μ 1 (8 * s + i)) y)) 2 (8 * s + i) (trn (μ 2 (8 * s + i)) y)) (by omega)
    refine ⟨μ', fun c c1 c2 => by rw [g1 c c1 c2, up2_ne c2, up2_ne c1], fun j => ?_, fun j => ?_, fun Q q => ?_⟩
    · rw [g2 j, a1]
      by_cases z : 8 * s + (i + 1) ≤ j ∧ j < 8 * s + 8
      · rw [if_pos z, if_pos (by omega), upd_ne (by omega)]
      · rw [if_neg z]
        by_cases y : j = 8 * s + i
        · rw [y, upd_eq, if_pos (by omega)]
        · rw [upd_ne y, if_neg (by omega)]
    · rw [g3 j, a2]
      by_cases z : 8 * s + (i + 1) ≤ j ∧ j < 8 * s + 8
      · rw [if_pos z, if_pos (by omega), upd_ne (by omega)]
      · rw [if_neg z]
        by_cases y : j = 8 * s + i
        · rw [y, upd_eq, if_pos (by omega)]
        · rw [upd_ne y, if_neg (by omega)]
    · obtain ⟨fu, hfu⟩ := g4 Q q
      refine ⟨fu + 1, ⟨fun z => absurd z hlt, fun _ => ⟨vs, vs, fun x ex => ⟨vs, vs, fun y ey w ew => ?_⟩⟩⟩⟩
      subst ew; subst ey; subst ex
      rw [cs, nI_1]
      exact hfu
