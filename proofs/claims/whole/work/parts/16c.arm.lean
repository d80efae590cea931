/-! arms: the class's and the reference's way to a place -/
theorem la_loop {σ : St} {o n : Nat} (hn : n ≤ 6) (e2 : σ o 2 = nI n) (d : Int32) : ∀ (m i acc : Nat), i + m = n → ∀ Q : Int32 → St → Prop, Q (nI (laR (σ (o + 1)) d m i acc)) σ → ∃ fu, wl_X4_lastAhead_13 Q o d fu σ (nI acc) (nI i) := by
  intro m
  induction m with
  | zero =>
    intro i acc hi Q q
    have hle : (σ o 2) ≤ nI i := by rw [e2]; exact nI_le (by omega) (by omega)
    exact ⟨1, ⟨fun _ => q, fun z => absurd hle z⟩⟩
  | succ m ih =>
    intro i acc hi Q q
    have hlt : ¬ (σ o 2) ≤ nI i := by rw [e2]; exact nI_ge (by omega) (by omega)
    have ci : (nI i).toNatClampNeg = i := nI_clamp (by omega)
    have vi : vp_in (nI i) 6 := vp_in_nI (by omega) (by decide)
    have e : laR (σ (o + 1)) d (m + 1) i acc = laR (σ (o + 1)) d m (i + 1) (if d < σ (o + 1) i then acc else i) := rfl
    rw [e] at q
    by_cases z : d < σ (o + 1) i
    · rw [if_pos z] at q
      obtain ⟨fu, hfu⟩ := ih (i + 1) acc (by omega) Q q
      refine ⟨fu + 1, ⟨fun z => absurd z hlt, fun _ => ⟨vi, ?_⟩⟩⟩
      rw [ci]
      refine ⟨fun _ x ex => ?_, fun y => absurd z y⟩
      subst ex
      rw [nI_1]
      exact hfu
    · rw [if_neg z] at q
      obtain ⟨fu, hfu⟩ := ih (i + 1) i (by omega) Q q
      refine ⟨fu + 1, ⟨fun z => absurd z hlt, fun _ => ⟨vi, ?_⟩⟩⟩
      rw [ci]
      refine ⟨fun y => absurd y z, fun _ x ex => ?_⟩
      subst ex
      rw [nI_1]
      exact hfu
theorem la_c {σ : St} {o n : Nat} (h1 : 1 ≤ n) (hn : n ≤ 6) (e2 : σ o 2 = nI n) {d : Int32} {Q : Int32 → St → Prop} (q : Q (nI (la (σ (o + 1)) n d)) σ) : wp_X4_lastAhead Q o d σ := by
  intro x ex
  have e : x = nI (n - 1) := by
    rw [ex, e2]
    obtain ⟨m, rfl⟩ : ∃ m, n = m + 1 := ⟨n - 1, by omega⟩
    have em : nI (m + 1) - 1 = nI m := nI_pred m
    rw [em]
    have z0 : (0 : Int32).toInt = 0 := by decide
    have tm : (nI m).toInt = (m : Int) := nI_toInt (by omega)
    by_cases z : (0 : Int32) < nI m
    · rw [if_pos z]; rfl
    · rw [if_neg z]
      rw [Int32.lt_iff_toInt_lt, z0, tm] at z
      have : m = 0 := by omega
      rw [this]; rfl
  rw [e]
  exact la_loop hn e2 d n 0 (n - 1) (by omega) Q q
theorem nx_c {σ : St} {o n a : Nat} (hn : n ≤ 6) (ha : a < n) (e2 : σ o 2 = nI n) {Q : Int32 → St → Prop} (q : Q (nI (nx n a)) σ) : wp_X4_nextInRing Q o (nI a) σ := by
  unfold nx at q
  refine ⟨fun z => ?_, fun z => ?_⟩
  · rw [e2, nI_1] at z
    by_cases y : n ≤ a + 1
    · rw [if_pos y] at q; exact q
    · exact absurd z (nI_ge (by omega) (by omega))
  · rw [e2, nI_1] at z
    by_cases y : n ≤ a + 1
    · exact absurd (nI_le y (by omega)) z
    · rw [if_neg y] at q
      rw [nI_1]
      exact q
section CArm
variable {σ : St} {o n : Nat}
theorem below_c (h : knOK (σ (o + 1)) (σ (o + 2)) n) (e2 : σ o 2 = nI n) {d : Int32} {Q : Int32 → St → Prop} (q : Q (blV (σ (o + 1)) n d) σ) : wp_X4_below Q o d σ := by
  have ha := (la_is h d).1
  have hb := nx_lt (a := la (σ (o + 1)) n d) h.1
  have h6 := h.2.1
  refine la_c h.1 h.2.1 e2 ⟨vp_in_nI (by omega) (by decide), nx_c h.2.1 ha e2 ⟨vp_in_nI (by omega) (by decide), ?_⟩⟩
  rw [nI_clamp (by omega), nI_clamp (by omega)]
  unfold blV at q
  refine wu_c ⟨fun z => ?_, fun z => ?_⟩
  · rw [if_neg z] at q; exact q
  · rw [if_pos z] at q; exact q
theorem above_c (h : knOK (σ (o + 1)) (σ (o + 2)) n) (e2 : σ o 2 = nI n) {d : Int32} {Q : Int32 → St → Prop} (q : Q (abV (σ (o + 1)) (σ (o + 2)) n d) σ) : wp_X4_above Q o d σ := by
  have ha := (la_is h d).1
  have hb := nx_lt (a := la (σ (o + 1)) n d) h.1
  have h6 := h.2.1
  have va : vp_in (nI (la (σ (o + 1)) n d)) 6 := vp_in_nI (by omega) (by decide)
  have vb : vp_in (nI (nx n (la (σ (o + 1)) n d))) 6 := vp_in_nI (by omega) (by decide)
  have ca : (nI (la (σ (o + 1)) n d)).toNatClampNeg = la (σ (o + 1)) n d := nI_clamp (by omega)
  have cb : (nI (nx n (la (σ (o + 1)) n d))).toNatClampNeg = nx n (la (σ (o + 1)) n d) := nI_clamp (by omega)
  refine la_c h.1 h.2.1 e2 (nx_c h.2.1 ha e2 ⟨vb, va, fun x ex => ⟨va, below_c h e2 ⟨va, ?_⟩⟩⟩)
  rw [ca, cb] at ex
  subst ex
  rw [ca]
  exact wu_c q
end CArm
theorem idx6 {a k : Nat} (ha : a < 3) (hk : k < 6) : vp_in ((6 : Int32) * nI a + nI k) 18 ∧ ((6 : Int32) * nI a + nI k).toNatClampNeg = 6 * a + k := by
  have e : (6 : Int32) * nI a + nI k = nI (6 * a + k) := by rw [show (6 : Int32) = nI 6 from rfl, pk_mul, nI_add]
  rw [e]
  exact ⟨vp_in_nI (by omega) (by decide), nI_clamp (by omega)⟩
def mA (μ : St) (i : Nat) (f g : Nat → Int32) (n : Nat) : Prop := μ 7 i = nI n ∧ ∀ k, k < n → μ 8 (6 * i + k) = f k ∧ μ 9 (6 * i + k) = g k
section MArm
variable {μ : St} {a n : Nat} {f g : Nat → Int32}
theorem find_loop (ha : a < 3) (h : knOK f g n) (hm : mA μ a f g n) {d : Int32} (hd : deg d) : ∀ (m i acc : Nat), i + m = n → ∀ Q : St → Prop, (laR f d m i acc = la f n d) → Q (up2 (up2 μ 0 41 (abV f g n d)) 0 42 (blV f n d)) → ∃ fu, wl_X10_find_15 Q (nI a) d (nI n) fu μ (nI acc) (nI i) := by
  have hn := h.2.1
  have hn1 := h.1
  intro m
  induction m with
  | zero =>
    intro i acc hi Q hacc q
    have hle : nI n ≤ nI i := nI_le (by omega) (by omega)
    have hacc : acc = la f n d := hacc
    have hl := (la_is h d).1
    have hx := nx_lt (a := la f n d) h.1
    have nz : ¬ nI n = 0 := by
      intro z
      have := congrArg Int32.toInt z
      rw [nI_toInt (by omega)] at this
      have z0 : (0 : Int32).toInt = 0 := by decide
      omega
    have ej : jrem (nI acc + 1) (nI n) = nI (nx n (la f n d)) := by
      rw [nI_1, jrem_nI (by omega) (by omega) (by omega), hacc]
      unfold nx
      by_cases y : n ≤ la f n d + 1
      · rw [if_pos y]
        have : la f n d + 1 = n := by omega
        rw [this, Nat.mod_self]
      · rw [if_neg y, Nat.mod_eq_of_lt (by omega)]
    obtain ⟨va, ca⟩ := idx6 (k := la f n d) ha (by omega)
    obtain ⟨vb, cb⟩ := idx6 (k := nx n (la f n d)) ha (by omega)
    have da := (h.2.2.1 _ hl).1
    have db := (h.2.2.1 _ hx).1
    have ka := hm.2 _ hl
    have kb := hm.2 _ hx
    have tail : ∀ z0 : Int32, z0 = blV f n d → wb_X10_find_112 Q (nI a) d (nI (la f n d)) (nI (nx n (la f n d))) (f (la f n d)) z0 μ := by
      intro z0 ez x ex
      subst ez; subst ex
      refine ⟨va, fun y ey => ?_⟩
      rw [ca, ka.2] at ey
      subst ey
      refine ⟨vb, fun u eu v ev => ?_⟩
      subst ev; subst eu
      rw [cb, kb.2, modV_eq da hd]
      exact q
    refine ⟨1, ⟨fun _ => ⟨nz, fun x ex => ?_⟩, fun z => absurd hle z⟩⟩
    rw [ej] at ex
    subst ex
    rw [hacc]
    refine ⟨va, fun y ey => ?_⟩
    rw [ca, ka.1] at ey
    subst ey
    refine ⟨vb, fun w ew => ?_⟩
    rw [cb, kb.1, modV_eq da db] at ew
    subst ew
    refine ⟨fun z => tail _ ?_, fun z => tail _ ?_⟩
    · unfold blV; rw [if_neg z]
    · unfold blV; rw [if_pos z]
  | succ m ih =>
    intro i acc hi Q hacc q
    have hlt : ¬ nI n ≤ nI i := nI_ge (by omega) (by omega)
    obtain ⟨vi, ci⟩ := idx6 (k := i) ha (by omega)
    have ki := hm.2 i (by omega)
    have e : laR f d (m + 1) i acc = laR f d m (i + 1) (if d < f i then acc else i) := rfl
    rw [e] at hacc
    by_cases z : d < f i
    · rw [if_pos z] at hacc
      obtain ⟨fu, hfu⟩ := ih (i + 1) acc (by omega) Q hacc q
      refine ⟨fu + 1, ⟨fun z => absurd z hlt, fun _ => ⟨vi, ?_⟩⟩⟩
      rw [ci, ki.1]
      refine ⟨fun _ x ex => ?_, fun y => absurd z y⟩
      subst ex
      rw [nI_1]
      exact hfu
    · rw [if_neg z] at hacc
      obtain ⟨fu, hfu⟩ := ih (i + 1) i (by omega) Q hacc q
      refine ⟨fu + 1, ⟨fun z => absurd z hlt, fun _ => ⟨vi, ?_⟩⟩⟩
      rw [ci, ki.1]
      refine ⟨fun y => absurd y z, fun _ x ex => ?_⟩
      subst ex
      rw [nI_1]
      exact hfu
theorem find_m (ha : a < 3) (h : knOK f g n) (hm : mA μ a f g n) {d : Int32} (hd : deg d) {Q : St → Prop} (q : Q (up2 (up2 μ 0 41 (abV f g n d)) 0 42 (blV f n d))) : wp_X10_find Q (nI a) d μ := by
  have ca : (nI a).toNatClampNeg = a := nI_clamp (by omega)
  have hn1 := h.1
  refine ⟨vp_in_nI ha (by decide), fun x ex y ey => ?_⟩
  rw [ca, hm.1] at ex
  subst ex
  have e : nI n - 1 = nI (n - 1) := by
    obtain ⟨m, rfl⟩ : ∃ m, n = m + 1 := ⟨n - 1, by omega⟩
    exact nI_pred m
  rw [e] at ey
  subst ey
  exact find_loop ha h hm hd n 0 (n - 1) (by omega) Q rfl q
end MArm
/-! longs -/
theorem tl_mul {a b : Int64} (h1 : -9223372036854775808 ≤ a.toInt * b.toInt) (h2 : a.toInt * b.toInt ≤ 9223372036854775807) : (a * b).toInt = a.toInt * b.toInt := by
  rw [Int64.toInt_mul]
  exact Int.bmod_eq_of_le (by omega) (by omega)
theorem tl_add {a b : Int64} (h1 : -9223372036854775808 ≤ a.toInt + b.toInt) (h2 : a.toInt + b.toInt ≤ 9223372036854775807) : (a + b).toInt = a.toInt + b.toInt := by
  rw [Int64.toInt_add]
  exact Int.bmod_eq_of_le (by omega) (by omega)
theorem tl_sub {a b : Int64} (h1 : -9223372036854775808 ≤ a.toInt - b.toInt) (h2 : a.toInt - b.toInt ≤ 9223372036854775807) : (a - b).toInt = a.toInt - b.toInt := by
  rw [Int64.toInt_sub]
  exact Int.bmod_eq_of_le (by omega) (by omega)
theorem tl_32 {a b : Int32} : (a.toInt64 * b.toInt64).toInt = a.toInt * b.toInt := by
  have ha1 := a.le_toInt
  have ha2 := a.toInt_lt
  have hb1 := b.le_toInt
  have hb2 := b.toInt_lt
  have h1 : -(2147483648 * 2147483648 : Int) ≤ a.toInt * b.toInt ∧ a.toInt * b.toInt ≤ 2147483648 * 2147483648 := by
    have := Int.natAbs_mul a.toInt b.toInt
    have h3 : a.toInt.natAbs * b.toInt.natAbs ≤ 2147483648 * 2147483648 := Nat.mul_le_mul (by omega) (by omega)
    omega
  rw [tl_mul (by rw [Int32.toInt_toInt64, Int32.toInt_toInt64]; omega) (by rw [Int32.toInt_toInt64, Int32.toInt_toInt64]; omega), Int32.toInt_toInt64, Int32.toInt_toInt64]
