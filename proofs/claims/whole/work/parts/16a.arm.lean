/-! arms: the knots of one arm -/
def knOK (f g : Nat → Int32) (n : Nat) : Prop := 1 ≤ n ∧ n ≤ 6 ∧ (∀ k, k < n → deg (f k) ∧ 0 ≤ (g k).toInt ∧ (g k).toInt ≤ 1000) ∧ ∀ k, k + 1 < n → (f k).toInt < (f (k + 1)).toInt
def laR (f : Nat → Int32) (d : Int32) : Nat → Nat → Nat → Nat
  | 0, _, acc => acc
  | m + 1, i, acc => laR f d m (i + 1) (if d < f i then acc else i)
def la (f : Nat → Int32) (n : Nat) (d : Int32) : Nat := laR f d n 0 (n - 1)
def nx (n a : Nat) : Nat := if n ≤ a + 1 then 0 else a + 1
def blV (f : Nat → Int32) (n : Nat) (d : Int32) : Int32 := if wayV (f (la f n d)) (f (nx n (la f n d))) = 0 then 360 else wayV (f (la f n d)) (f (nx n (la f n d)))
def abV (f g : Nat → Int32) (n : Nat) (d : Int32) : Int32 := g (la f n d) * blV f n d + (g (nx n (la f n d)) - g (la f n d)) * wayV (f (la f n d)) d
theorem laR_spec {f : Nat → Int32} {d : Int32} : ∀ (m i acc : Nat), (∃ k, i ≤ k ∧ k < i + m ∧ (f k).toInt ≤ d.toInt ∧ laR f d m i acc = k ∧ ∀ j, k < j → j < i + m → d.toInt < (f j).toInt) ∨ (laR f d m i acc = acc ∧ ∀ k, i ≤ k → k < i + m → d.toInt < (f k).toInt) := by
  intro m
  induction m with
  | zero => exact fun i acc => Or.inr ⟨rfl, fun k h1 h2 => absurd h1 (by omega)⟩
  | succ m ih =>
    intro i acc
    have e : laR f d (m + 1) i acc = laR f d m (i + 1) (if d < f i then acc else i) := rfl
    rw [e]
    rcases ih (i + 1) (if d < f i then acc else i) with ⟨k, k1, k2, k3, k4, k5⟩ | ⟨k4, k5⟩
    · exact Or.inl ⟨k, by omega, by omega, k3, k4, fun j h1 h2 => k5 j h1 (by omega)⟩
    · by_cases z : d < f i
      · rw [if_pos z] at k4 ⊢
        rw [Int32.lt_iff_toInt_lt] at z
        refine Or.inr ⟨k4, fun k h1 h2 => ?_⟩
        by_cases y : k = i
        · rw [y]; exact z
        · exact k5 k (by omega) (by omega)
      · rw [if_neg z] at k4 ⊢
        rw [Int32.lt_iff_toInt_lt] at z
        exact Or.inl ⟨i, by omega, by omega, by omega, k4, fun j h1 h2 => k5 j (by omega) (by omega)⟩
theorem kn_sort {f g : Nat → Int32} {n : Nat} (h : knOK f g n) : ∀ j i, i < j → j < n → (f i).toInt < (f j).toInt := by
  intro j
  induction j with
  | zero => exact fun i h1 _ => absurd h1 (by omega)
  | succ j ih =>
    intro i h1 h2
    have h3 := h.2.2.2 j h2
    by_cases z : i = j
    · rw [z]; exact h3
    · have := ih i (by omega) (by omega)
      omega
/-- the last knot at or ahead of d, in the ring -/
def isLa (f : Nat → Int32) (n : Nat) (d : Int) (a : Nat) : Prop := a < n ∧ (((f a).toInt ≤ d ∧ ∀ k, a < k → k < n → d < (f k).toInt) ∨ (a = n - 1 ∧ ∀ k, k < n → d < (f k).toInt))
theorem la_is {f g : Nat → Int32} {n : Nat} (h : knOK f g n) (d : Int32) : isLa f n d.toInt (la f n d) := by
  have h1 := h.1
  rcases laR_spec (f := f) (d := d) n 0 (n - 1) with ⟨k, k1, k2, k3, k4, k5⟩ | ⟨k4, k5⟩
  · refine ⟨?_, Or.inl ?_⟩
    · show laR f d n 0 (n - 1) < n
      rw [k4]; omega
    · show (f (laR f d n 0 (n - 1))).toInt ≤ d.toInt ∧ ∀ k, laR f d n 0 (n - 1) < k → k < n → d.toInt < (f k).toInt
      rw [k4]
      exact ⟨k3, fun j h1 h2 => k5 j h1 (by omega)⟩
  · refine ⟨?_, Or.inr ⟨k4, fun k hk => k5 k (by omega) (by omega)⟩⟩
    show laR f d n 0 (n - 1) < n
    rw [k4]; omega
theorem isLa_uniq {f g : Nat → Int32} {n : Nat} (h : knOK f g n) {d : Int} {a b : Nat} (ha : isLa f n d a) (hb : isLa f n d b) : a = b := by
  obtain ⟨a1, a2⟩ := ha
  obtain ⟨b1, b2⟩ := hb
  rcases a2 with ⟨a2, a3⟩ | ⟨a2, a3⟩
  · rcases b2 with ⟨b2, b3⟩ | ⟨b2, b3⟩
    · rcases Nat.lt_trichotomy a b with z | z | z
      · have := a3 b z b1; omega
      · exact z
      · have := b3 a z a1; omega
    · have := b3 a a1; omega
  · rcases b2 with ⟨b2, b3⟩ | ⟨b2, b3⟩
    · have := a3 b b1; omega
    · omega
theorem nx_lt {n a : Nat} (h : 1 ≤ n) : nx n a < n := by
  unfold nx
  by_cases z : n ≤ a + 1
  · rw [if_pos z]; omega
  · rw [if_neg z]; omega
section Geo
variable {f g : Nat → Int32} {n : Nat}
def GN (f : Nat → Int32) (n : Nat) (d : Int32) : Int := (d.toInt - (f (la f n d)).toInt) % 360
def BL (f : Nat → Int32) (n : Nat) (d : Int32) : Int := (blV f n d).toInt
def AB (f g : Nat → Int32) (n : Nat) (d : Int32) : Int := (abV f g n d).toInt
def RS (f g : Nat → Int32) (n : Nat) (d : Int32) : Int := (g (nx n (la f n d))).toInt - (g (la f n d)).toInt
theorem bl_eq (h : knOK f g n) (d : Int32) : BL f n d = if ((f (nx n (la f n d))).toInt - (f (la f n d)).toInt) % 360 = 0 then 360 else ((f (nx n (la f n d))).toInt - (f (la f n d)).toInt) % 360 := by
  have ha := (la_is h d).1
  have hw := wayV_ti (h.2.2.1 _ ha).1 (h.2.2.1 _ (nx_lt (a := la f n d) h.1)).1
  unfold BL blV
  have z0 : (0 : Int32).toInt = 0 := by decide
  by_cases z : wayV (f (la f n d)) (f (nx n (la f n d))) = 0
  · rw [if_pos z]
    rw [z, z0] at hw
    rw [if_pos hw.symm, ti_360]
  · rw [if_neg z, if_neg, hw]
    intro y
    rw [y] at hw
    exact z (Int32.toInt_inj.mp (by rw [hw, z0]))
theorem gn_bl (h : knOK f g n) {d : Int32} (hd : deg d) : 0 ≤ GN f n d ∧ GN f n d < BL f n d ∧ BL f n d ≤ 360 ∧ (wayV (f (la f n d)) d).toInt = GN f n d := by
  obtain ⟨ha, hc⟩ := la_is h d
  have da := (h.2.2.1 _ ha).1
  have hb := nx_lt (a := la f n d) h.1
  have db := (h.2.2.1 _ hb).1
  have hw := wayV_ti da hd
  rw [bl_eq h d]
  have hs := kn_sort h
  have hs2 := hs (la f n d) 0
  unfold deg at hd da db
  have hG : GN f n d = (d.toInt - (f (la f n d)).toInt) % 360 := rfl
  have hn := h.1
  refine ⟨by rw [hG]; omega, ?_, ?_, hw⟩
  · by_cases z : n ≤ la f n d + 1
    · have e : nx n (la f n d) = 0 := if_pos z
      rw [e] at db ⊢
      -- from the last knot to the first
      by_cases z1 : la f n d = 0
      · rw [hG, z1, Int.sub_self, if_pos (by decide)]
        omega
      · have h0 : (f 0).toInt < (f (la f n d)).toInt := hs (la f n d) 0 (by omega) ha
        rcases hc with ⟨c1, c2⟩ | ⟨c1, c2⟩
        · rw [if_neg (by omega), hG]
          omega
        · have := c2 0 (by omega)
          rw [if_neg (by omega), hG]
          omega
    · have e : nx n (la f n d) = la f n d + 1 := if_neg z
      rw [e] at db ⊢
      have h0 : (f (la f n d)).toInt < (f (la f n d + 1)).toInt := hs _ _ (by omega) (by omega)
      rcases hc with ⟨c1, c2⟩ | ⟨c1, c2⟩
      · have := c2 (la f n d + 1) (by omega) (by omega)
        rw [if_neg (by omega), hG]
        omega
      · omega
  · by_cases z : ((f (nx n (la f n d))).toInt - (f (la f n d)).toInt) % 360 = 0
    · rw [if_pos z]; exact Int.le_refl _
    · rw [if_neg z]; omega
theorem ab_eq (h : knOK f g n) {d : Int32} (hd : deg d) : AB f g n d = (g (la f n d)).toInt * BL f n d + RS f g n d * GN f n d ∧ 0 ≤ AB f g n d ∧ AB f g n d ≤ 360000 := by
  obtain ⟨g1, g2, g3, g4⟩ := gn_bl h hd
  obtain ⟨ha, hc⟩ := la_is h d
  obtain ⟨_, a1, a2⟩ := h.2.2.1 _ ha
  obtain ⟨_, b1, b2⟩ := h.2.2.1 _ (nx_lt (a := la f n d) h.1)
  have m1 := mul_bd (x := (g (la f n d)).toInt) (y := BL f n d - GN f n d) (A := 1000) (B := BL f n d - GN f n d) a1 a2 (by omega) (Int.le_refl _)
  have m2 := mul_bd (x := (g (nx n (la f n d))).toInt) (y := GN f n d) (A := 1000) (B := GN f n d) b1 b2 (by omega) (Int.le_refl _)
  have m3 := mul_bd (x := (g (la f n d)).toInt) (y := BL f n d) (A := 1000) (B := 360) a1 a2 (by omega) g3
  have m4 := mul_bd (x := (g (la f n d)).toInt) (y := GN f n d) (A := 1000) (B := 360) a1 a2 (by omega) (by omega)
  have m5 := mul_bd (x := (g (nx n (la f n d))).toInt) (y := GN f n d) (A := 1000) (B := 360) b1 b2 (by omega) (by omega)
  have x1 : (g (la f n d)).toInt * (BL f n d - GN f n d) = (g (la f n d)).toInt * BL f n d - (g (la f n d)).toInt * GN f n d := Int.mul_sub _ _ _
  have x2 : RS f g n d * GN f n d = (g (nx n (la f n d))).toInt * GN f n d - (g (la f n d)).toInt * GN f n d := Int.sub_mul _ _ _
  have e1 : (g (la f n d) * blV f n d).toInt = (g (la f n d)).toInt * BL f n d := ti_mul (by show _ ≤ (g (la f n d)).toInt * BL f n d; omega) (by show (g (la f n d)).toInt * BL f n d ≤ _; omega)
  have e2 : (g (nx n (la f n d)) - g (la f n d)).toInt = RS f g n d := ti_sub (by omega) (by omega)
  have e3 : ((g (nx n (la f n d)) - g (la f n d)) * wayV (f (la f n d)) d).toInt = RS f g n d * GN f n d := by
    rw [ti_mul (by rw [e2, g4]; omega) (by rw [e2, g4]; omega), e2, g4]
  have e4 : AB f g n d = (g (la f n d)).toInt * BL f n d + RS f g n d * GN f n d := by
    show (g (la f n d) * blV f n d + (g (nx n (la f n d)) - g (la f n d)) * wayV (f (la f n d)) d).toInt = _
    rw [ti_add (by rw [e1, e3]; omega) (by rw [e1, e3]; omega), e1, e3]
  refine ⟨e4, ?_, ?_⟩
  · rw [e4]; omega
  · rw [e4]; omega
/-- one degree on -/
theorem step_la (h : knOK f g n) {x y : Nat} (hx : x < 360) (hy : y = (x + 1) % 360) : ((∀ k, k < n → (f k).toInt ≠ (y : Int)) ∧ la f n (nI y) = la f n (nI x) ∧ GN f n (nI y) = GN f n (nI x) + 1) ∨ (la f n (nI y) = nx n (la f n (nI x)) ∧ GN f n (nI y) = 0 ∧ BL f n (nI x) = GN f n (nI x) + 1 ∧ ∃ k, k < n ∧ (f k).toInt = (y : Int)) := by
  have tx : (nI x).toInt = (x : Int) := nI_toInt (by omega)
  have ty : (nI y).toInt = (y : Int) := nI_toInt (by omega)
  have hl := la_is h (nI x)
  rw [tx] at hl
  obtain ⟨ha, hc⟩ := hl
  have da := (h.2.2.1 _ ha).1
  have hs := kn_sort h
  have hn := h.1
  have hD : ∀ k, k < n → 0 ≤ (f k).toInt ∧ (f k).toInt ≤ 359 := fun k hk => (h.2.2.1 k hk).1
  by_cases hk : ∃ k, k < n ∧ (f k).toInt = (y : Int)
  · right
    obtain ⟨k, k1, k2⟩ := hk
    have e1 : la f n (nI y) = k := by
      apply isLa_uniq h (d := (y : Int))
      · have := la_is h (nI y)
        rw [ty] at this
        exact this
      · refine ⟨k1, Or.inl ⟨by omega, fun j z1 z2 => ?_⟩⟩
        have := hs j k z1 z2
        omega
    have e2 : nx n (la f n (nI x)) = k := by
      unfold nx
      rcases hc with ⟨c1, c2⟩ | ⟨c1, c2⟩
      · by_cases z : x = 359
        · have y0 : y = 0 := by omega
          have la1 : n ≤ la f n (nI x) + 1 := by
            rcases Nat.lt_or_ge (la f n (nI x) + 1) n with w | w
            · have := c2 (la f n (nI x) + 1) (by omega) w
              have := hD _ w
              omega
            · exact w
          rw [if_pos la1]
          rcases Nat.eq_zero_or_pos k with w | w
          · exact w.symm
          · have := hs k 0 w k1
            have := hD 0 (by omega)
            omega
        · have hk2 : la f n (nI x) < k := by
            rcases Nat.lt_trichotomy (la f n (nI x)) k with w | w | w
            · exact w
            · rw [w] at c1; omega
            · have := hs _ _ w ha
              omega
          rw [if_neg (by omega)]
          rcases Nat.lt_or_ge (la f n (nI x) + 1) k with w | w
          · have := hs _ _ w k1
            have := c2 (la f n (nI x) + 1) (by omega) (by omega)
            omega
          · omega
      · rw [if_pos (by omega)]
        rcases Nat.eq_zero_or_pos k with w | w
        · exact w.symm
        · have h1 := hs k 0 w k1
          have h2 := c2 0 (by omega)
          have h3 := c2 k k1
          have h4 := hD k k1
          omega
    have g1 : GN f n (nI y) = 0 := by
      show ((nI y).toInt - (f (la f n (nI y))).toInt) % 360 = 0
      rw [e1, ty, k2]
      omega
    have g2 : GN f n (nI x) = ((x : Int) - (f (la f n (nI x))).toInt) % 360 := by
      show ((nI x).toInt - (f (la f n (nI x))).toInt) % 360 = _
      rw [tx]
    refine ⟨e1.trans e2.symm, g1, ?_, k, k1, k2⟩
    rw [bl_eq h, e2, k2, g2]
    unfold deg at da
    by_cases z : ((y : Int) - (f (la f n (nI x))).toInt) % 360 = 0
    · rw [if_pos z]; omega
    · rw [if_neg z]; omega
  · left
    have hk' : ∀ k, k < n → (f k).toInt ≠ (y : Int) := fun k k1 k2 => hk ⟨k, k1, k2⟩
    have e1 : la f n (nI y) = la f n (nI x) := by
      apply isLa_uniq h (d := (y : Int))
      · have := la_is h (nI y)
        rw [ty] at this
        exact this
      · refine ⟨ha, ?_⟩
        rcases hc with ⟨c1, c2⟩ | ⟨c1, c2⟩
        · by_cases z : x = 359
          · have y0 : y = 0 := by omega
            refine Or.inr ⟨?_, fun k k1 => ?_⟩
            · rcases Nat.lt_or_ge (la f n (nI x) + 1) n with w | w
              · have := c2 (la f n (nI x) + 1) (by omega) w
                have := hD _ w
                omega
              · omega
            · have := hk' k k1
              have := hD k k1
              omega
          · refine Or.inl ⟨by omega, fun k z1 z2 => ?_⟩
            have := hk' k z2
            have := c2 k z1 z2
            omega
        · refine Or.inr ⟨c1, fun k k1 => ?_⟩
          have := hk' k k1
          have := c2 k k1
          have := hD k k1
          omega
    refine ⟨hk', e1, ?_⟩
    show ((nI y).toInt - (f (la f n (nI y))).toInt) % 360 = ((nI x).toInt - (f (la f n (nI x))).toInt) % 360 + 1
    rw [e1, tx, ty]
    have := hk' _ ha
    unfold deg at da
    omega
/-- the place goes on in a straight line -/
theorem step_ab (h : knOK f g n) {x y : Nat} (hx : x < 360) (hy : y = (x + 1) % 360) : (AB f g n (nI y) * BL f n (nI x) = (AB f g n (nI x) + RS f g n (nI x)) * BL f n (nI y)) ∧ ((∀ k, k < n → (f k).toInt ≠ (y : Int)) → BL f n (nI y) = BL f n (nI x) ∧ RS f g n (nI y) = RS f g n (nI x) ∧ AB f g n (nI y) = AB f g n (nI x) + RS f g n (nI x)) := by
  have tx : (nI x).toInt = (x : Int) := nI_toInt (by omega)
  have ty : (nI y).toInt = (y : Int) := nI_toInt (by omega)
  have dx : deg (nI x) := by unfold deg; omega
  have dy : deg (nI y) := by unfold deg; omega
  have ax := (ab_eq h dx).1
  have ay := (ab_eq h dy).1
  rcases step_la h hx hy with ⟨k1, k2, k3⟩ | ⟨k2, k3, k4, k5⟩
  · have eB : BL f n (nI y) = BL f n (nI x) := by rw [bl_eq h, bl_eq h, k2]
    have eR : RS f g n (nI y) = RS f g n (nI x) := by unfold RS; rw [k2]
    have eA : AB f g n (nI y) = AB f g n (nI x) + RS f g n (nI x) := by
      rw [ax, ay, eB, eR, k3, k2, Int.mul_add, Int.mul_one]
      omega
    exact ⟨by rw [eA, eB], fun _ => ⟨eB, eR, eA⟩⟩
  · refine ⟨?_, fun z => ?_⟩
    · rw [ax, ay, k2, k3, k4]
      unfold RS
      grind
    · obtain ⟨k, z1, z2⟩ := k5
      exact absurd z2 (z k z1)
end Geo
