/-! drums: distances in the ring -/
theorem ti_360 : (360 : Int32).toInt = 360 := by decide
def wayV (x y : Int32) : Int32 := if x ≤ y then y - x else (y - x) + 360
theorem wayV_ti {x y : Int32} (hx : deg x) (hy : deg y) : (wayV x y).toInt = (y.toInt - x.toInt) % 360 := by
  unfold deg at hx hy
  have e : (y - x).toInt = y.toInt - x.toInt := ti_sub (by omega) (by omega)
  unfold wayV
  by_cases h : x ≤ y
  · rw [if_pos h, e]
    rw [Int32.le_iff_toInt_le] at h
    omega
  · rw [if_neg h, ti_add (by rw [e, ti_360]; omega) (by rw [e, ti_360]; omega), e, ti_360]
    rw [Int32.le_iff_toInt_le] at h
    omega
theorem wu_c {v0 v1 : Int32} {σ : St} {Q : Int32 → St → Prop} (q : Q (wayV v0 v1) σ) : wp_X9_wayUp Q v0 v1 σ := by
  unfold wayV at q
  refine ⟨fun h => ?_, fun h => ?_⟩
  · rw [if_pos h] at q; exact q
  · rw [if_neg h] at q; exact q
theorem modV_ti {x y : Int32} (hx : deg x) (hy : deg y) : (jrem ((y - x) + 360) 360).toInt = (y.toInt - x.toInt) % 360 := by
  unfold deg at hx hy
  have e : (y - x).toInt = y.toInt - x.toInt := ti_sub (by omega) (by omega)
  have e2 : (y - x + 360).toInt = y.toInt - x.toInt + 360 := by rw [ti_add (by rw [e, ti_360]; omega) (by rw [e, ti_360]; omega), e, ti_360]
  have h := jrem_pos (a := y - x + 360) (by rw [e2]; omega) (d := 360) (by decide) (by decide)
  have h2 : (jrem (y - x + 360) 360).toInt = (y - x + 360).toInt % ((360 : Nat) : Int) := h
  rw [h2, e2]
  omega
theorem modV_eq {x y : Int32} (hx : deg x) (hy : deg y) : jrem ((y - x) + 360) 360 = wayV x y := Int32.toInt_inj.mp (by rw [modV_ti hx hy, wayV_ti hx hy])
theorem len_c {σ : St} {o : Nat} {v : Int32} (hv : vp_in v 8) {Q : Int32 → St → Prop} (q : Q (wayV (σ (o + 1) v.toNatClampNeg) (σ (o + 2) v.toNatClampNeg)) σ) : wp_X2_length Q o v σ := ⟨hv, hv, wu_c q⟩
/-- is act a done at d: 1, else 0 -/
def dnV (f g : Nat → Int32) (a : Nat) (d : Int32) : Int32 := if wayV (f a) (g a) ≤ wayV (f a) d then 0 else 1
theorem dnV_iff {f g : Nat → Int32} {a : Nat} {d : Int32} (hf : deg (f a)) (hg : deg (g a)) (hd : deg d) : (¬ dnV f g a d = 0 ↔ doneP f g a d.toInt) := by
  unfold dnV doneP lenP
  by_cases h : wayV (f a) (g a) ≤ wayV (f a) d
  · rw [if_pos h]
    rw [Int32.le_iff_toInt_le, wayV_ti hf hg, wayV_ti hf hd] at h
    constructor
    · intro z; exact absurd rfl z
    · intro z; omega
  · rw [if_neg h]
    rw [Int32.le_iff_toInt_le, wayV_ti hf hg, wayV_ti hf hd] at h
    constructor
    · intro _; omega
    · intro _; decide
theorem done_c {σ : St} {o : Nat} {v : Int32} (hv : vp_in v 8) {d : Int32} {Q : Int32 → St → Prop} (q : Q (dnV (σ (o + 1)) (σ (o + 2)) v.toNatClampNeg d) σ) : wp_X2_isDone Q o v d σ := by
  refine ⟨hv, wu_c (len_c hv ⟨fun h => ?_, fun h => ?_⟩)⟩
  · unfold dnV at q; rw [if_pos h] at q; exact q
  · unfold dnV at q; rw [if_neg h] at q; exact q
/-! the two ways to look at APART and WITHIN -/
theorem apart_iff {f g : Nat → Int32} (hd : drumOK f g) {a b : Nat} (ha : a < 8) (hb : b < 8) : (∀ d : Int, 0 ≤ d → d < 360 → doneP f g a d → ¬ doneP f g b d) ↔ ¬ doneP f g a (f b).toInt ∧ ¬ doneP f g b (f a).toInt := by
  obtain ⟨a1, a2, a3⟩ := hd a ha
  obtain ⟨b1, b2, b3⟩ := hd b hb
  have a3' : (f a).toInt ≠ (g a).toInt := fun z => a3 (Int32.toInt_inj.mp z)
  have b3' : (f b).toInt ≠ (g b).toInt := fun z => b3 (Int32.toInt_inj.mp z)
  unfold deg at a1 a2 b1 b2
  unfold doneP lenP
  constructor
  · intro h
    refine ⟨fun z => ?_, fun z => ?_⟩
    · exact h (f b).toInt (by omega) (by omega) z (by omega)
    · exact h (f a).toInt (by omega) (by omega) (by omega) z
  · intro h d d1 d2 h1 h2
    rcases Int.le_total ((d - (f b).toInt) % 360) ((d - (f a).toInt) % 360) with z | z
    · exact h.1 (by omega)
    · exact h.2 (by omega)
theorem within_iff {f g : Nat → Int32} (hd : drumOK f g) {a b : Nat} (ha : a < 8) (hb : b < 8) : (∀ d : Int, 0 ≤ d → d < 360 → doneP f g a d → doneP f g b d) ↔ ((f a).toInt - (f b).toInt) % 360 + lenP f g a ≤ lenP f g b := by
  obtain ⟨a1, a2, a3⟩ := hd a ha
  obtain ⟨b1, b2, b3⟩ := hd b hb
  have a3' : (f a).toInt ≠ (g a).toInt := fun z => a3 (Int32.toInt_inj.mp z)
  have b3' : (f b).toInt ≠ (g b).toInt := fun z => b3 (Int32.toInt_inj.mp z)
  unfold deg at a1 a2 b1 b2
  unfold doneP lenP
  constructor
  · intro h
    -- the last degree of a, and the one ahead of b's on
    have h1 := h (((f a).toInt + ((g a).toInt - (f a).toInt) % 360 - 1) % 360) (by omega) (by omega) (by omega)
    have h2 := h (((f a).toInt + (359 - ((f a).toInt - (f b).toInt) % 360)) % 360) (by omega) (by omega)
    omega
  · intro h d d1 d2 h1
    omega
