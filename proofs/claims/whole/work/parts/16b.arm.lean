/-! arms: two arms -/
def FF (f1 g1 : Nat → Int32) (n1 : Nat) (f2 g2 : Nat → Int32) (n2 : Nat) (d : Int32) : Int := AB f2 g2 n2 d * BL f1 n1 d - AB f1 g1 n1 d * BL f2 n2 d
def EE (f1 : Nat → Int32) (n1 : Nat) (f2 : Nat → Int32) (n2 : Nat) (d : Int32) : Int := BL f1 n1 d * BL f2 n2 d
def SS (f1 g1 : Nat → Int32) (n1 : Nat) (f2 g2 : Nat → Int32) (n2 : Nat) (d : Int32) : Int := RS f2 g2 n2 d * BL f1 n1 d - RS f1 g1 n1 d * BL f2 n2 d
theorem pair_alg {a1 b1 r1 a2 b2 r2 a1' b1' a2' b2' : Int} (h1 : a1' * b1 = (a1 + r1) * b1') (h2 : a2' * b2 = (a2 + r2) * b2') : (a2' * b1' - a1' * b2') * (b1 * b2) = (a2 * b1 - a1 * b2 + (r2 * b1 - r1 * b2)) * (b1' * b2') := by
  grind
theorem pair_alg2 {a1 b1 r1 a2 b2 r2 : Int} : (a2 + r2) * b1 - (a1 + r1) * b2 = a2 * b1 - a1 * b2 + (r2 * b1 - r1 * b2) := by
  grind
/-- orders of fractions -/
theorem fr_le_le {a b c d e f : Int} (hb : 0 < b) (hd : 0 < d) (hf : 0 < f) (h1 : a * d ≤ c * b) (h2 : c * f ≤ e * d) : a * f ≤ e * b := by
  have h3 := Int.mul_le_mul_of_nonneg_right h1 (Int.le_of_lt hf)
  have h4 := Int.mul_le_mul_of_nonneg_right h2 (Int.le_of_lt hb)
  have h5 : a * f * d ≤ e * b * d := by
    have x1 : a * f * d = a * d * f := by grind
    have x2 : e * b * d = e * d * b := by grind
    have x3 : c * b * f = c * f * b := by grind
    omega
  exact Int.le_of_mul_le_mul_right h5 hd
theorem fr_lt_le {a b c d e f : Int} (hb : 0 < b) (hd : 0 < d) (hf : 0 < f) (h1 : a * d < c * b) (h2 : c * f ≤ e * d) : a * f < e * b := by
  have h3 := Int.mul_lt_mul_of_pos_right h1 hf
  have h4 := Int.mul_le_mul_of_nonneg_right h2 (Int.le_of_lt hb)
  have h5 : a * f * d < e * b * d := by
    have x1 : a * f * d = a * d * f := by grind
    have x2 : e * b * d = e * d * b := by grind
    have x3 : c * b * f = c * f * b := by grind
    omega
  exact Int.lt_of_mul_lt_mul_right h5 (Int.le_of_lt hd)
theorem fr_le_lt {a b c d e f : Int} (hb : 0 < b) (hd : 0 < d) (hf : 0 < f) (h1 : a * d ≤ c * b) (h2 : c * f < e * d) : a * f < e * b := by
  have h3 := Int.mul_le_mul_of_nonneg_right h1 (Int.le_of_lt hf)
  have h4 := Int.mul_lt_mul_of_pos_right h2 hb
  have h5 : a * f * d < e * b * d := by
    have x1 : a * f * d = a * d * f := by grind
    have x2 : e * b * d = e * d * b := by grind
    have x3 : c * b * f = c * f * b := by grind
    omega
  exact Int.lt_of_mul_lt_mul_right h5 (Int.le_of_lt hd)
section Pair
variable {f1 g1 f2 g2 : Nat → Int32} {n1 n2 : Nat}
def isKn (f1 : Nat → Int32) (n1 : Nat) (f2 : Nat → Int32) (n2 : Nat) (y : Nat) : Prop := (∃ k, k < n1 ∧ (f1 k).toInt = (y : Int)) ∨ (∃ k, k < n2 ∧ (f2 k).toInt = (y : Int))
theorem deg_nI {x : Nat} (h : x < 360) : deg (nI x) := by
  have tx : (nI x).toInt = (x : Int) := nI_toInt (by omega)
  unfold deg
  omega
theorem ee_pos (h1 : knOK f1 g1 n1) (h2 : knOK f2 g2 n2) {x : Nat} (hx : x < 360) : 0 < EE f1 n1 f2 n2 (nI x) := by
  obtain ⟨a1, a2, _, _⟩ := gn_bl h1 (deg_nI hx)
  obtain ⟨b1, b2, _, _⟩ := gn_bl h2 (deg_nI hx)
  exact Int.mul_pos (by omega) (by omega)
theorem pair_step (h1 : knOK f1 g1 n1) (h2 : knOK f2 g2 n2) {x y : Nat} (hx : x < 360) (hy : y = (x + 1) % 360) : (FF f1 g1 n1 f2 g2 n2 (nI y) * EE f1 n1 f2 n2 (nI x) = (FF f1 g1 n1 f2 g2 n2 (nI x) + SS f1 g1 n1 f2 g2 n2 (nI x)) * EE f1 n1 f2 n2 (nI y)) ∧
    (¬ isKn f1 n1 f2 n2 y → EE f1 n1 f2 n2 (nI y) = EE f1 n1 f2 n2 (nI x) ∧ SS f1 g1 n1 f2 g2 n2 (nI y) = SS f1 g1 n1 f2 g2 n2 (nI x) ∧ FF f1 g1 n1 f2 g2 n2 (nI y) = FF f1 g1 n1 f2 g2 n2 (nI x) + SS f1 g1 n1 f2 g2 n2 (nI x)) := by
  obtain ⟨p1, p2⟩ := step_ab h1 hx hy
  obtain ⟨q1, q2⟩ := step_ab h2 hx hy
  refine ⟨pair_alg p1 q1, fun hk => ?_⟩
  obtain ⟨u1, u2, u3⟩ := p2 (fun k k1 k2 => hk (Or.inl ⟨k, k1, k2⟩))
  obtain ⟨v1, v2, v3⟩ := q2 (fun k k1 k2 => hk (Or.inr ⟨k, k1, k2⟩))
  unfold EE SS FF
  rw [u1, u2, u3, v1, v2, v3]
  exact ⟨rfl, rfl, pair_alg2⟩
/-- not below 50 at the knots, so nowhere -/
theorem clear_all (h1 : knOK f1 g1 n1) (h2 : knOK f2 g2 n2) (hk : ∀ y, y < 360 → isKn f1 n1 f2 n2 y → 50 * EE f1 n1 f2 n2 (nI y) ≤ FF f1 g1 n1 f2 g2 n2 (nI y)) : ∀ x, x < 360 → 50 * EE f1 n1 f2 n2 (nI x) ≤ FF f1 g1 n1 f2 g2 n2 (nI x) := by
  -- a knot
  obtain ⟨K, hK, hKn⟩ : ∃ K : Nat, K < 360 ∧ isKn f1 n1 f2 n2 K := by
    have h0 := (h1.2.2.1 0 (by have := h1.1; omega)).1
    unfold deg at h0
    exact ⟨(f1 0).toInt.toNat, by omega, Or.inl ⟨0, by have := h1.1; omega, by omega⟩⟩
  have up : ∀ (m x : Nat), x < 360 → (x + m) % 360 = K → FF f1 g1 n1 f2 g2 n2 (nI x) < 50 * EE f1 n1 f2 n2 (nI x) → SS f1 g1 n1 f2 g2 n2 (nI x) ≤ 0 → False := by
    intro m
    induction m with
    | zero =>
      intro x hx hm hF hS
      have : x = K := by omega
      rw [this] at hF
      have := hk K hK hKn
      omega
    | succ m ih =>
      intro x hx hm hF hS
      obtain ⟨s1, s2⟩ := pair_step h1 h2 hx (y := (x + 1) % 360) rfl
      have hy : (x + 1) % 360 < 360 := Nat.mod_lt _ (by decide)
      have ex := ee_pos h1 h2 hx
      have ey := ee_pos h1 h2 hy
      have lt : FF f1 g1 n1 f2 g2 n2 (nI ((x + 1) % 360)) < 50 * EE f1 n1 f2 n2 (nI ((x + 1) % 360)) := by
        have z1 : (FF f1 g1 n1 f2 g2 n2 (nI x) + SS f1 g1 n1 f2 g2 n2 (nI x)) * EE f1 n1 f2 n2 (nI ((x + 1) % 360)) < (50 * EE f1 n1 f2 n2 (nI x)) * EE f1 n1 f2 n2 (nI ((x + 1) % 360)) := Int.mul_lt_mul_of_pos_right (by omega) ey
        rw [← s1] at z1
        have z2 : (50 * EE f1 n1 f2 n2 (nI x)) * EE f1 n1 f2 n2 (nI ((x + 1) % 360)) = (50 * EE f1 n1 f2 n2 (nI ((x + 1) % 360))) * EE f1 n1 f2 n2 (nI x) := by grind
        rw [z2] at z1
        exact Int.lt_of_mul_lt_mul_right z1 (Int.le_of_lt ex)
      by_cases z : isKn f1 n1 f2 n2 ((x + 1) % 360)
      · have := hk _ hy z
        omega
      · obtain ⟨t1, t2, t3⟩ := s2 z
        exact ih _ hy (by omega) lt (by omega)
  have down : ∀ (m x : Nat), x = (K + m) % 360 → FF f1 g1 n1 f2 g2 n2 (nI x) < 50 * EE f1 n1 f2 n2 (nI x) → 0 < SS f1 g1 n1 f2 g2 n2 (nI x) → False := by
    intro m
    induction m with
    | zero =>
      intro x hx hF hS
      have : x = K := by omega
      rw [this] at hF
      have := hk K hK hKn
      omega
    | succ m ih =>
      intro x hx hF hS
      have hx3 : x < 360 := by omega
      by_cases z : isKn f1 n1 f2 n2 x
      · have := hk _ hx3 z
        omega
      · obtain ⟨s1, s2⟩ := pair_step h1 h2 (x := (K + m) % 360) (y := x) (Nat.mod_lt _ (by decide)) (by omega)
        obtain ⟨t1, t2, t3⟩ := s2 z
        exact ih ((K + m) % 360) rfl (by omega) (by omega)
  intro x hx
  by_cases z : FF f1 g1 n1 f2 g2 n2 (nI x) < 50 * EE f1 n1 f2 n2 (nI x)
  · exfalso
    by_cases y : 0 < SS f1 g1 n1 f2 g2 n2 (nI x)
    · exact down ((x + 360 - K) % 360) x (by omega) z y
    · exact up ((K + 360 - x) % 360) x hx (by omega) z (by omega)
  · omega
/-- the first of the nearest degrees is 0 or a knot -/
def isMin (f1 g1 : Nat → Int32) (n1 : Nat) (f2 g2 : Nat → Int32) (n2 : Nat) (d : Nat) : Prop := d < 360 ∧ (∀ x, x < 360 → FF f1 g1 n1 f2 g2 n2 (nI d) * EE f1 n1 f2 n2 (nI x) ≤ FF f1 g1 n1 f2 g2 n2 (nI x) * EE f1 n1 f2 n2 (nI d)) ∧ (∀ x, x < d → FF f1 g1 n1 f2 g2 n2 (nI d) * EE f1 n1 f2 n2 (nI x) < FF f1 g1 n1 f2 g2 n2 (nI x) * EE f1 n1 f2 n2 (nI d))
theorem min_knot (h1 : knOK f1 g1 n1) (h2 : knOK f2 g2 n2) {d : Nat} (hm : isMin f1 g1 n1 f2 g2 n2 d) : d = 0 ∨ isKn f1 n1 f2 n2 d := by
  obtain ⟨m1, m2, m3⟩ := hm
  by_cases z : d = 0
  · exact Or.inl z
  · right
    by_cases y : isKn f1 n1 f2 n2 d
    · exact y
    · exfalso
      obtain ⟨x, rfl⟩ : ∃ x, d = x + 1 := ⟨d - 1, by omega⟩
      have hx : x < 360 := by omega
      obtain ⟨s1, s2⟩ := pair_step h1 h2 (x := x) (y := x + 1) hx (by omega)
      obtain ⟨t1, t2, t3⟩ := s2 y
      have lt := m3 x (by omega)
      have ex := ee_pos h1 h2 hx
      have hS : SS f1 g1 n1 f2 g2 n2 (nI x) < 0 := by
        rw [t1] at lt
        have := Int.lt_of_mul_lt_mul_right lt (Int.le_of_lt ex)
        omega
      obtain ⟨u1, _⟩ := pair_step h1 h2 (x := x + 1) (y := (x + 1 + 1) % 360) m1 rfl
      have hy : (x + 1 + 1) % 360 < 360 := Nat.mod_lt _ (by decide)
      have ey := ee_pos h1 h2 hy
      have le := m2 _ hy
      rw [u1, t2] at le
      have := Int.mul_lt_mul_of_pos_right (a := FF f1 g1 n1 f2 g2 n2 (nI (x + 1)) + SS f1 g1 n1 f2 g2 n2 (nI x)) (b := FF f1 g1 n1 f2 g2 n2 (nI (x + 1))) (by omega) ey
      omega
/-- the nearest of 0 and the knots, the least one if several are -/
def isBest (f1 g1 : Nat → Int32) (n1 : Nat) (f2 g2 : Nat → Int32) (n2 : Nat) (P : Nat → Prop) (d : Nat) : Prop := d < 360 ∧ P d ∧ ∀ x, x < 360 → P x → FF f1 g1 n1 f2 g2 n2 (nI d) * EE f1 n1 f2 n2 (nI x) < FF f1 g1 n1 f2 g2 n2 (nI x) * EE f1 n1 f2 n2 (nI d) ∨ (FF f1 g1 n1 f2 g2 n2 (nI d) * EE f1 n1 f2 n2 (nI x) = FF f1 g1 n1 f2 g2 n2 (nI x) * EE f1 n1 f2 n2 (nI d) ∧ d ≤ x)
theorem best_min (h1 : knOK f1 g1 n1) (h2 : knOK f2 g2 n2) {d e : Nat} (hm : isMin f1 g1 n1 f2 g2 n2 d) (hb : isBest f1 g1 n1 f2 g2 n2 (fun x => x = 0 ∨ isKn f1 n1 f2 n2 x) e) : d = e := by
  have hk := min_knot h1 h2 hm
  obtain ⟨m1, m2, m3⟩ := hm
  obtain ⟨b1, b2, b3⟩ := hb
  have x1 := b3 d m1 hk
  have x2 := m2 e b1
  rcases x1 with x1 | ⟨x1, x3⟩
  · omega
  · rcases Nat.lt_or_ge e d with z | z
    · have := m3 e z
      omega
    · omega
end Pair
