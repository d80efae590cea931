/-! one law over one drum: the class -/
theorem ti_500 : (500 : Int32).toInt = 500 := by decide
theorem ti_3 : (3 : Int32).toInt = 3 := by decide
theorem mul_bd {x y A B : Int} (hx : 0 ≤ x) (hxA : x ≤ A) (hy : 0 ≤ y) (hyB : y ≤ B) : 0 ≤ x * y ∧ x * y ≤ A * B := ⟨Int.mul_nonneg hx hy, Int.mul_le_mul hxA hyB hy (Int.le_trans hx hxA)⟩
theorem lenV_ti {f g : Nat → Int32} (hd : drumOK f g) {a : Nat} (ha : a < 8) : (wayV (f a) (g a)).toInt = lenP f g a ∧ 1 ≤ lenP f g a ∧ lenP f g a ≤ 359 := by
  obtain ⟨a1, a2, a3⟩ := hd a ha
  have a3' : (f a).toInt ≠ (g a).toInt := fun z => a3 (Int32.toInt_inj.mp z)
  refine ⟨wayV_ti a1 a2, ?_⟩
  unfold deg at a1 a2
  unfold lenP
  omega
theorem long_l {p n : Int32} (hp1 : 1 ≤ p.toInt) (hp2 : p.toInt ≤ 60) (hn1 : 0 ≤ n.toInt) (hn2 : n.toInt ≤ 60000) : (3 * p * n).toInt = 3 * p.toInt * n.toInt := by
  have e1 : (3 * p).toInt = 3 * p.toInt := by rw [ti_mul (by rw [ti_3]; omega) (by rw [ti_3]; omega), ti_3]
  have hb := mul_bd (x := 3 * p.toInt) (y := n.toInt) (A := 180) (B := 60000) (by omega) (by omega) hn1 hn2
  rw [ti_mul (by rw [e1]; omega) (by rw [e1]; omega), e1]
theorem kind4 {x : Int32} (h : vp_in x 4) : x = 0 ∨ x = 1 ∨ x = 2 ∨ x = 3 := by
  obtain ⟨j, hj, e⟩ := vp_in_of h (by decide)
  rcases (show j = 0 ∨ j = 1 ∨ j = 2 ∨ j = 3 by omega) with rfl | rfl | rfl | rfl
  · exact Or.inl e
  · exact Or.inr (Or.inl e)
  · exact Or.inr (Or.inr (Or.inl e))
  · exact Or.inr (Or.inr (Or.inr e))
section KP
variable {f g l : Nat → Int32} {p : Int}
theorem kp0 (h : l 0 = 0) : keepsP f g l p ↔ (l 3).toInt ≤ ((f (l 2).toNatClampNeg).toInt - (g (l 1).toNatClampNeg).toInt) % 360 := by
  unfold keepsP
  rw [h]
  exact ⟨fun z => z.1 rfl, fun z => ⟨fun _ => z, fun y => absurd y (by decide), fun y => absurd y (by decide), fun y => absurd y (by decide)⟩⟩
theorem kp1 (h : l 0 = 1) : keepsP f g l p ↔ ∀ d : Int, 0 ≤ d → d < 360 → doneP f g (l 1).toNatClampNeg d → ¬ doneP f g (l 2).toNatClampNeg d := by
  unfold keepsP
  rw [h]
  exact ⟨fun z => z.2.1 rfl, fun z => ⟨fun y => absurd y (by decide), fun _ => z, fun y => absurd y (by decide), fun y => absurd y (by decide)⟩⟩
theorem kp2 (h : l 0 = 2) : keepsP f g l p ↔ 3 * p * (l 3).toInt ≤ 500 * lenP f g (l 1).toNatClampNeg := by
  unfold keepsP
  rw [h]
  exact ⟨fun z => z.2.2.1 rfl, fun z => ⟨fun y => absurd y (by decide), fun y => absurd y (by decide), fun _ => z, fun y => absurd y (by decide)⟩⟩
theorem kp3 (h : l 0 = 3) : keepsP f g l p ↔ ∀ d : Int, 0 ≤ d → d < 360 → doneP f g (l 1).toNatClampNeg d → doneP f g (l 2).toNatClampNeg d := by
  unfold keepsP
  rw [h]
  exact ⟨fun z => z.2.2.2 rfl, fun z => ⟨fun y => absurd y (by decide), fun y => absurd y (by decide), fun y => absurd y (by decide), fun _ => z⟩⟩
end KP
set_option maxHeartbeats 1000000 in
theorem broken_c {σ : St} {o0 o1 : Nat} (hl : lawOK (σ o0)) (hd : drumOK (σ (o1 + 1)) (σ (o1 + 2))) {p : Int32} (hp1 : 1 ≤ p.toInt) (hp2 : p.toInt ≤ 60) : ∃ r : Int32, ((r = 0 ∧ keepsP (σ (o1 + 1)) (σ (o1 + 2)) (σ o0) p.toInt) ∨ (r = 1 ∧ ¬ keepsP (σ (o1 + 1)) (σ (o1 + 2)) (σ o0) p.toInt)) ∧ ∀ Q : Int32 → St → Prop, Q r σ → wp_X8_isBroken Q o0 o1 p σ := by
  obtain ⟨k4, a8, b8, n1, n2⟩ := hl
  have ha := vp_lt a8
  have hb := vp_lt b8
  obtain ⟨da1, da2, da3⟩ := hd _ ha
  obtain ⟨db1, db2, db3⟩ := hd _ hb
  rcases kind4 k4 with k | k | k | k
  · have hk := kp0 (f := σ (o1 + 1)) (g := σ (o1 + 2)) (p := p.toInt) k
    have hw := wayV_ti da2 db1
    by_cases hc : (σ o0 3) ≤ wayV (σ (o1 + 2) (σ o0 1).toNatClampNeg) (σ (o1 + 1) (σ o0 2).toNatClampNeg)
    · refine ⟨0, Or.inl ⟨rfl, ?_⟩, fun Q q => ⟨fun _ => ⟨a8, b8, wu_c ⟨fun _ => q, fun z => absurd hc z⟩⟩, fun z => absurd (k.symm.trans z) (by decide), fun z => absurd (k.symm.trans z) (by decide), fun z => absurd k z⟩⟩
      rw [Int32.le_iff_toInt_le, hw] at hc
      rw [hk]; exact hc
    · refine ⟨1, Or.inr ⟨rfl, ?_⟩, fun Q q => ⟨fun _ => ⟨a8, b8, wu_c ⟨fun z => absurd z hc, fun _ => q⟩⟩, fun z => absurd (k.symm.trans z) (by decide), fun z => absurd (k.symm.trans z) (by decide), fun z => absurd k z⟩⟩
      rw [Int32.le_iff_toInt_le, hw] at hc
      rw [hk]; exact hc
  · have hk := kp1 (f := σ (o1 + 1)) (g := σ (o1 + 2)) (p := p.toInt) k
    rw [apart_iff hd ha hb] at hk
    have d1 := dnV_iff (f := σ (o1 + 1)) (g := σ (o1 + 2)) da1 da2 db1
    have d2 := dnV_iff (f := σ (o1 + 1)) (g := σ (o1 + 2)) db1 db2 da1
    by_cases c1 : dnV (σ (o1 + 1)) (σ (o1 + 2)) (σ o0 1).toNatClampNeg (σ (o1 + 1) (σ o0 2).toNatClampNeg) = 0
    · by_cases c2 : dnV (σ (o1 + 1)) (σ (o1 + 2)) (σ o0 2).toNatClampNeg (σ (o1 + 1) (σ o0 1).toNatClampNeg) = 0
      · refine ⟨0, Or.inl ⟨rfl, ?_⟩, fun Q q => ⟨fun z => absurd (k.symm.trans z) (by decide), fun _ => ⟨b8, done_c a8 ⟨fun z => absurd c1 z, fun _ => ⟨a8, done_c b8 ⟨fun _ => q, fun z => absurd c2 z⟩⟩⟩⟩, fun z => absurd (k.symm.trans z) (by decide), fun _ z => absurd k z⟩⟩
        rw [hk]; exact ⟨fun z => d1.mpr z c1, fun z => d2.mpr z c2⟩
      · refine ⟨1, Or.inr ⟨rfl, ?_⟩, fun Q q => ⟨fun z => absurd (k.symm.trans z) (by decide), fun _ => ⟨b8, done_c a8 ⟨fun z => absurd c1 z, fun _ => ⟨a8, done_c b8 ⟨fun z => absurd z c2, fun _ => q⟩⟩⟩⟩, fun z => absurd (k.symm.trans z) (by decide), fun _ z => absurd k z⟩⟩
        rw [hk]; exact fun z => z.2 (d2.mp c2)
    · refine ⟨1, Or.inr ⟨rfl, ?_⟩, fun Q q => ⟨fun z => absurd (k.symm.trans z) (by decide), fun _ => ⟨b8, done_c a8 ⟨fun _ => q, fun z => absurd z c1⟩⟩, fun z => absurd (k.symm.trans z) (by decide), fun _ z => absurd k z⟩⟩
      rw [hk]; exact fun z => z.1 (d1.mp c1)
  · have hk := kp2 (f := σ (o1 + 1)) (g := σ (o1 + 2)) (p := p.toInt) k
    obtain ⟨le, l1, l2⟩ := lenV_ti hd ha
    have e1 := long_l hp1 hp2 n1 n2
    have e2 : (wayV (σ (o1 + 1) (σ o0 1).toNatClampNeg) (σ (o1 + 2) (σ o0 1).toNatClampNeg) * 500).toInt = lenP (σ (o1 + 1)) (σ (o1 + 2)) (σ o0 1).toNatClampNeg * 500 := by rw [ti_mul (by rw [le, ti_500]; omega) (by rw [le, ti_500]; omega), le, ti_500]
    by_cases hc : (3 * p * σ o0 3) ≤ (wayV (σ (o1 + 1) (σ o0 1).toNatClampNeg) (σ (o1 + 2) (σ o0 1).toNatClampNeg) * 500)
    · refine ⟨0, Or.inl ⟨rfl, ?_⟩, fun Q q => ⟨fun z => absurd (k.symm.trans z) (by decide), fun z => absurd (k.symm.trans z) (by decide), fun _ => len_c a8 ⟨fun _ => q, fun z => absurd hc z⟩, fun _ _ z => absurd k z⟩⟩
      rw [Int32.le_iff_toInt_le, e1, e2] at hc
      rw [hk]; omega
    · refine ⟨1, Or.inr ⟨rfl, ?_⟩, fun Q q => ⟨fun z => absurd (k.symm.trans z) (by decide), fun z => absurd (k.symm.trans z) (by decide), fun _ => len_c a8 ⟨fun z => absurd z hc, fun _ => q⟩, fun _ _ z => absurd k z⟩⟩
      rw [Int32.le_iff_toInt_le, e1, e2] at hc
      rw [hk]; omega
  · have hk := kp3 (f := σ (o1 + 1)) (g := σ (o1 + 2)) (p := p.toInt) k
    rw [within_iff hd ha hb] at hk
    obtain ⟨lea, l1, l2⟩ := lenV_ti hd ha
    obtain ⟨leb, l3, l4⟩ := lenV_ti hd hb
    have hw := wayV_ti db1 da1
    have e1 : (wayV (σ (o1 + 1) (σ o0 2).toNatClampNeg) (σ (o1 + 1) (σ o0 1).toNatClampNeg) + wayV (σ (o1 + 1) (σ o0 1).toNatClampNeg) (σ (o1 + 2) (σ o0 1).toNatClampNeg)).toInt = ((σ (o1 + 1) (σ o0 1).toNatClampNeg).toInt - (σ (o1 + 1) (σ o0 2).toNatClampNeg).toInt) % 360 + lenP (σ (o1 + 1)) (σ (o1 + 2)) (σ o0 1).toNatClampNeg := by
      rw [ti_add (by rw [hw, lea]; omega) (by rw [hw, lea]; omega), hw, lea]
    by_cases hc : (wayV (σ (o1 + 1) (σ o0 2).toNatClampNeg) (σ (o1 + 2) (σ o0 2).toNatClampNeg)) < (wayV (σ (o1 + 1) (σ o0 2).toNatClampNeg) (σ (o1 + 1) (σ o0 1).toNatClampNeg) + wayV (σ (o1 + 1) (σ o0 1).toNatClampNeg) (σ (o1 + 2) (σ o0 1).toNatClampNeg))
    · refine ⟨1, Or.inr ⟨rfl, ?_⟩, fun Q q => ⟨fun z => absurd (k.symm.trans z) (by decide), fun z => absurd (k.symm.trans z) (by decide), fun z => absurd (k.symm.trans z) (by decide), fun _ _ _ => ⟨b8, a8, wu_c (len_c a8 (len_c b8 ⟨fun _ => ⟨fun z => absurd rfl z, fun _ => q⟩, fun z => absurd hc z⟩))⟩⟩⟩
      rw [Int32.lt_iff_toInt_lt, e1, leb] at hc
      rw [hk]; omega
    · refine ⟨0, Or.inl ⟨rfl, ?_⟩, fun Q q => ⟨fun z => absurd (k.symm.trans z) (by decide), fun z => absurd (k.symm.trans z) (by decide), fun z => absurd (k.symm.trans z) (by decide), fun _ _ _ => ⟨b8, a8, wu_c (len_c a8 (len_c b8 ⟨fun z => absurd z hc, fun _ => ⟨fun _ => q, fun z => absurd z (by decide)⟩⟩))⟩⟩⟩
      rw [Int32.lt_iff_toInt_lt, e1, leb] at hc
      rw [hk]; omega
/-! one law over one drum: the reference -/
theorem idx8 {s : Nat} (hs : s < 6) {v : Int32} (hv : vp_in v 8) : (8 : Int32) * nI s + v = nI (8 * s + v.toNatClampNeg) ∧ vp_in ((8 : Int32) * nI s + v) 48 ∧ ((8 : Int32) * nI s + v).toNatClampNeg = 8 * s + v.toNatClampNeg := by
  obtain ⟨a, ha, e⟩ := vp_in_of hv (by decide)
  have hcl : v.toNatClampNeg = a := by rw [e]; exact nI_clamp (by omega)
  have e1 : (8 : Int32) * nI s + v = nI (8 * s + v.toNatClampNeg) := by
    rw [hcl, e, show (8 : Int32) = nI 8 from rfl, pk_mul, nI_add]
  refine ⟨e1, ?_, ?_⟩
  · rw [e1]; exact vp_in_nI (by omega) (by decide)
  · rw [e1]; exact nI_clamp (by omega)
section MD
variable {μ : St} {s : Nat} {f g : Nat → Int32}
theorem mlen (hs : s < 6) (hf : ∀ a, a < 8 → μ 1 (8 * s + a) = f a) (hg : ∀ a, a < 8 → μ 2 (8 * s + a) = g a) (hd : drumOK f g) {v : Int32} (hv : vp_in v 8) {Q : Int32 → St → Prop} (q : Q (wayV (f v.toNatClampNeg) (g v.toNatClampNeg)) μ) : wp_X10_lengthOf Q (nI s) v μ := by
  obtain ⟨e1, e2, e3⟩ := idx8 hs hv
  have ha := vp_lt hv
  unfold wp_X10_lengthOf
  rw [e3, hf _ ha, hg _ ha, modV_eq (hd _ ha).1 (hd _ ha).2.1]
  exact ⟨e2, e2, q⟩
theorem mdone (hs : s < 6) (hf : ∀ a, a < 8 → μ 1 (8 * s + a) = f a) (hg : ∀ a, a < 8 → μ 2 (8 * s + a) = g a) (hd : drumOK f g) {v : Int32} (hv : vp_in v 8) {d : Int32} (hdd : deg d) {Q : Int32 → St → Prop} (q : Q (dnV f g v.toNatClampNeg d) μ) : wp_X10_isDone Q (nI s) v d μ := by
  obtain ⟨e1, e2, e3⟩ := idx8 hs hv
  have ha := vp_lt hv
  unfold wp_X10_isDone
  rw [e3, hf _ ha, modV_eq (hd _ ha).1 hdd]
  refine ⟨e2, mlen hs hf hg hd hv ⟨fun h => ?_, fun h => ?_⟩⟩
  · unfold dnV at q; rw [if_pos h] at q; exact q
  · unfold dnV at q; rw [if_neg h] at q; exact q
end MD
def badP (f g l : Nat → Int32) (d : Int) : Prop := doneP f g (l 1).toNatClampNeg d ∧ (l 0 = 1 → doneP f g (l 2).toNatClampNeg d) ∧ (¬ l 0 = 1 → ¬ doneP f g (l 2).toNatClampNeg d)
set_option maxHeartbeats 1000000 in
theorem keeps_loop {μ : St} {s k : Nat} {f g l : Nat → Int32} (hs : s < 6) (hk : k < 17) (hf : ∀ a, a < 8 → μ 1 (8 * s + a) = f a) (hg : ∀ a, a < 8 → μ 2 (8 * s + a) = g a) (hd : drumOK f g) (l0 : μ 3 k = l 0) (hl : lawOK l) : ∀ (m i : Nat) (v : Int32), i + m = 360 → (v = 0 ∨ v = 1) → ∃ r : Int32, ((r = 1 ∧ v = 1 ∧ ∀ d : Int, (i : Int) ≤ d → d < 360 → ¬ badP f g l d) ∨ (r = 0 ∧ ¬ (v = 1 ∧ ∀ d : Int, (i : Int) ≤ d → d < 360 → ¬ badP f g l d))) ∧ ∀ Q : Int32 → St → Prop, Q r μ → ∃ fu, wl_X10_keeps_119 Q (nI s) (nI k) (l 1) (l 2) fu μ v (nI i) := by
  obtain ⟨k4, a8, b8, n1, n2⟩ := hl
  have v17 : vp_in (nI k) 17 := vp_in_nI hk (by decide)
  have ck : (nI k).toNatClampNeg = k := nI_clamp (by omega)
  intro m
  induction m with
  | zero =>
    intro i v hi hv
    have hle : (360 : Int32) ≤ nI i := nI_le (a := 360) (by omega) (by omega)
    rcases hv with rfl | rfl
    · exact ⟨0, Or.inr ⟨rfl, fun z => absurd z.1 (by decide)⟩, fun Q q => ⟨1, ⟨fun _ => ⟨bz0, q⟩, fun z => absurd hle z⟩⟩⟩
    · exact ⟨1, Or.inl ⟨rfl, rfl, fun d h1 h2 => absurd h1 (by omega)⟩, fun Q q => ⟨1, ⟨fun _ => ⟨bz1, q⟩, fun z => absurd hle z⟩⟩⟩
  | succ m ih =>
    intro i v hi hv
    have hlt : ¬ (360 : Int32) ≤ nI i := nI_ge (b := 360) (by omega) (by omega)
    have ti : (nI i).toInt = (i : Int) := nI_toInt (by omega)
    have hdi : deg (nI i) := by unfold deg; rw [ti]; omega
    have ha := vp_lt a8
    have hb := vp_lt b8
    have d1 := dnV_iff (hd _ ha).1 (hd _ ha).2.1 hdi
    have d2 := dnV_iff (hd _ hb).1 (hd _ hb).2.1 hdi
    rw [ti] at d1 d2
    -- what the flag is behind this degree
    have next : ∀ v' : Int32, (v' = 0 ∨ v' = 1) → (v' = 1 ↔ v = 1 ∧ ¬ badP f g l (i : Int)) → (∀ Q : Int32 → St → Prop, (∃ fu, wl_X10_keeps_119 Q (nI s) (nI k) (l 1) (l 2) fu μ v' (nI (i + 1))) → ∃ fu, wl_X10_keeps_119 Q (nI s) (nI k) (l 1) (l 2) fu μ v (nI i)) → ∃ r : Int32, ((r = 1 ∧ v = 1 ∧ ∀ d : Int, (i : Int) ≤ d → d < 360 → ¬ badP f g l d) ∨ (r = 0 ∧ ¬ (v = 1 ∧ ∀ d : Int, (i : Int) ≤ d → d < 360 → ¬ badP f g l d))) ∧ ∀ Q : Int32 → St → Prop, Q r μ → ∃ fu, wl_X10_keeps_119 Q (nI s) (nI k) (l 1) (l 2) fu μ v (nI i) := by
      intro v' hv' hiff hgo
      obtain ⟨r, hr, he⟩ := ih (i + 1) v' (by omega) hv'
      refine ⟨r, ?_, fun Q q => hgo Q (he Q q)⟩
      have split : (v = 1 ∧ ∀ d : Int, (i : Int) ≤ d → d < 360 → ¬ badP f g l d) ↔ (v' = 1 ∧ ∀ d : Int, ((i + 1 : Nat) : Int) ≤ d → d < 360 → ¬ badP f g l d) := by
        constructor
        · intro z
          exact ⟨hiff.mpr ⟨z.1, z.2 i (by omega) (by omega)⟩, fun d h1 h2 => z.2 d (by omega) h2⟩
        · intro z
          refine ⟨(hiff.mp z.1).1, fun d h1 h2 => ?_⟩
          by_cases e : d = (i : Int)
          · rw [e]; exact (hiff.mp z.1).2
          · exact z.2 d (by omega) h2
      rcases hr with ⟨h1, h2⟩ | ⟨h1, h2⟩
      · exact Or.inl ⟨h1, split.mpr h2⟩
      · exact Or.inr ⟨h1, fun z => h2 (split.mp z)⟩
    have step : ∀ (Q : Int32 → St → Prop) (fu : Nat) (P : Int32 → St → Int32 → Prop), True := fun _ _ _ => trivial
    rcases hv with hv | hv
    · refine next 0 (Or.inl rfl) ⟨fun z => absurd z (by decide), fun z => absurd (hv.symm.trans z.1) (by decide)⟩ (fun Q hf2 => ?_)
      obtain ⟨fu, hfu⟩ := hf2
      refine ⟨fu + 1, ⟨fun z => absurd z hlt, fun _ => mdone hs hf hg hd a8 hdi (mdone hs hf hg hd b8 hdi ⟨fun _ x ex => ?_, fun z => absurd hv z⟩)⟩⟩
      subst ex
      rw [nI_1]
      exact hfu
    · have hv0 : ¬ v = 0 := fun z => absurd (z.symm.trans hv) (by decide)
      by_cases c1 : dnV f g (l 1).toNatClampNeg (nI i) = 0
      · -- a isn't done: nothing is asked
        refine next 1 (Or.inr rfl) ⟨fun _ => ⟨hv, fun z => d1.mpr z.1 c1⟩, fun _ => rfl⟩ (fun Q hf2 => ?_)
        obtain ⟨fu, hfu⟩ := hf2
        refine ⟨fu + 1, ⟨fun z => absurd z hlt, fun _ => mdone hs hf hg hd a8 hdi (mdone hs hf hg hd b8 hdi ⟨fun z => absurd z hv0, fun _ => ⟨v17, fun _ => ⟨fun _ x ex => ?_, fun z => absurd c1 z⟩, fun _ => ⟨fun _ x ex => ?_, fun z => absurd c1 z⟩⟩⟩)⟩⟩
        · subst ex; rw [nI_1]; exact hfu
        · subst ex; rw [nI_1]; exact hfu
      · have A := d1.mp c1
        by_cases kk : l 0 = 1
        · have k3 : μ 3 (nI k).toNatClampNeg = 1 := by rw [ck, l0]; exact kk
          by_cases c2 : dnV f g (l 2).toNatClampNeg (nI i) = 0
          · refine next 1 (Or.inr rfl) ⟨fun _ => ⟨hv, fun z => d2.mpr (z.2.1 kk) c2⟩, fun _ => rfl⟩ (fun Q hf2 => ?_)
            obtain ⟨fu, hfu⟩ := hf2
            refine ⟨fu + 1, ⟨fun z => absurd z hlt, fun _ => mdone hs hf hg hd a8 hdi (mdone hs hf hg hd b8 hdi ⟨fun z => absurd z hv0, fun _ => ⟨v17, fun z => absurd k3 z, fun _ => ⟨fun z => absurd z c1, fun _ => ⟨fun _ x ex => ?_, fun z => absurd c2 z⟩⟩⟩⟩)⟩⟩
            subst ex; rw [nI_1]; exact hfu
          · refine next 0 (Or.inl rfl) ⟨fun z => absurd z (by decide), fun z => absurd ⟨A, fun _ => d2.mp c2, fun y => absurd kk y⟩ z.2⟩ (fun Q hf2 => ?_)
            obtain ⟨fu, hfu⟩ := hf2
            refine ⟨fu + 1, ⟨fun z => absurd z hlt, fun _ => mdone hs hf hg hd a8 hdi (mdone hs hf hg hd b8 hdi ⟨fun z => absurd z hv0, fun _ => ⟨v17, fun z => absurd k3 z, fun _ => ⟨fun z => absurd z c1, fun _ => ⟨fun z => absurd z c2, fun _ x ex => ?_⟩⟩⟩⟩)⟩⟩
            subst ex; rw [nI_1]; exact hfu
        · have k3 : ¬ μ 3 (nI k).toNatClampNeg = 1 := by rw [ck, l0]; exact kk
          by_cases c2 : dnV f g (l 2).toNatClampNeg (nI i) = 0
          · refine next 0 (Or.inl rfl) ⟨fun z => absurd z (by decide), fun z => absurd ⟨A, fun y => absurd y kk, fun _ y => d2.mpr y c2⟩ z.2⟩ (fun Q hf2 => ?_)
            obtain ⟨fu, hfu⟩ := hf2
            refine ⟨fu + 1, ⟨fun z => absurd z hlt, fun _ => mdone hs hf hg hd a8 hdi (mdone hs hf hg hd b8 hdi ⟨fun z => absurd z hv0, fun _ => ⟨v17, fun _ => ⟨fun z => absurd z c1, fun _ => ⟨fun _ x ex => ?_, fun z => absurd c2 z⟩⟩, fun z => absurd z k3⟩⟩)⟩⟩
            subst ex; rw [nI_1]; exact hfu
          · refine next 1 (Or.inr rfl) ⟨fun _ => ⟨hv, fun z => z.2.2 kk (d2.mp c2)⟩, fun _ => rfl⟩ (fun Q hf2 => ?_)
            obtain ⟨fu, hfu⟩ := hf2
            refine ⟨fu + 1, ⟨fun z => absurd z hlt, fun _ => mdone hs hf hg hd a8 hdi (mdone hs hf hg hd b8 hdi ⟨fun z => absurd z hv0, fun _ => ⟨v17, fun _ => ⟨fun z => absurd z c1, fun _ => ⟨fun z => absurd z c2, fun _ x ex => ?_⟩⟩, fun z => absurd z k3⟩⟩)⟩⟩
            subst ex; rw [nI_1]; exact hfu
set_option maxHeartbeats 1000000 in
theorem keeps_m {μ : St} {s k : Nat} {f g l : Nat → Int32} (hs : s < 6) (hk : k < 17) (hf : ∀ a, a < 8 → μ 1 (8 * s + a) = f a) (hg : ∀ a, a < 8 → μ 2 (8 * s + a) = g a) (hd : drumOK f g) (l0 : μ 3 k = l 0) (l1 : μ 4 k = l 1) (l2 : μ 5 k = l 2) (l3 : μ 6 k = l 3) (hl : lawOK l) {p : Int32} (hp1 : 1 ≤ p.toInt) (hp2 : p.toInt ≤ 60) : ∃ r : Int32, ((r = 1 ∧ keepsP f g l p.toInt) ∨ (r = 0 ∧ ¬ keepsP f g l p.toInt)) ∧ ∀ Q : Int32 → St → Prop, Q r μ → wp_X10_keeps Q (nI s) (nI k) p μ := by
  have hl' := hl
  obtain ⟨k4, a8, b8, n1, n2⟩ := hl'
  have ha := vp_lt a8
  have hb := vp_lt b8
  have v17 : vp_in (nI k) 17 := vp_in_nI hk (by decide)
  have ck : (nI k).toNatClampNeg = k := nI_clamp (by omega)
  obtain ⟨da1, da2, da3⟩ := hd _ ha
  obtain ⟨db1, db2, db3⟩ := hd _ hb
  obtain ⟨x1, x2, x3⟩ := idx8 hs a8
  obtain ⟨y1, y2, y3⟩ := idx8 hs b8
  unfold wp_X10_keeps
  rw [ck, l0, l1, l2, l3]
  have loop : ∀ hk1 : ¬ l 0 = 0, ¬ l 0 = 2 → (keepsP f g l p.toInt ↔ ∀ d : Int, 0 ≤ d → d < 360 → ¬ badP f g l d) := by
    intro h0 h2
    rcases kind4 k4 with e | e | e | e
    · exact absurd e h0
    · rw [kp1 e]
      exact ⟨fun z d z1 z2 y => z d z1 z2 y.1 (y.2.1 e), fun z d z1 z2 y1 y2 => z d z1 z2 ⟨y1, fun _ => y2, fun y => absurd e y⟩⟩
    · exact absurd e h2
    · have e1 : ¬ l 0 = 1 := by rw [e]; decide
      rw [kp3 e]
      refine ⟨fun z d z1 z2 y => y.2.2 e1 (z d z1 z2 y.1), fun z d z1 z2 y1 => Classical.byContradiction fun y2 => z d z1 z2 ⟨y1, fun y => absurd y e1, fun _ => y2⟩⟩
  by_cases h0 : l 0 = 0
  · have hk0 := kp0 (f := f) (g := g) (p := p.toInt) h0
    have hw := modV_ti da2 db1
    by_cases hc : (jrem ((f (l 2).toNatClampNeg - g (l 1).toNatClampNeg) + 360) 360) < l 3
    · refine ⟨0, Or.inr ⟨rfl, ?_⟩, fun Q q => ⟨v17, fun x ex => ?_⟩⟩
      · rw [Int32.lt_iff_toInt_lt, hw] at hc
        rw [hk0]; omega
      · subst ex
        refine ⟨v17, fun x ex => ?_⟩
        subst ex
        refine ⟨v17, fun x ex => ?_⟩
        subst ex
        refine ⟨v17, fun z => absurd h0 z, fun _ => ⟨y2, x2, ?_⟩⟩
        rw [x3, y3, hf _ hb, hg _ ha]
        exact ⟨fun _ => q, fun z => absurd hc z⟩
    · refine ⟨1, Or.inl ⟨rfl, ?_⟩, fun Q q => ⟨v17, fun x ex => ?_⟩⟩
      · rw [Int32.lt_iff_toInt_lt, hw] at hc
        rw [hk0]; omega
      · subst ex
        refine ⟨v17, fun x ex => ?_⟩
        subst ex
        refine ⟨v17, fun x ex => ?_⟩
        subst ex
        refine ⟨v17, fun z => absurd h0 z, fun _ => ⟨y2, x2, ?_⟩⟩
        rw [x3, y3, hf _ hb, hg _ ha]
        exact ⟨fun z => absurd z hc, fun _ => q⟩
  · by_cases h2 : l 0 = 2
    · have hk2 := kp2 (f := f) (g := g) (p := p.toInt) h2
      obtain ⟨le, b1, b2⟩ := lenV_ti hd ha
      have e1 := long_l hp1 hp2 n1 n2
      have e2 : (500 * wayV (f (l 1).toNatClampNeg) (g (l 1).toNatClampNeg)).toInt = 500 * lenP f g (l 1).toNatClampNeg := by rw [ti_mul (by rw [le, ti_500]; omega) (by rw [le, ti_500]; omega), le, ti_500]
      by_cases hc : (500 * wayV (f (l 1).toNatClampNeg) (g (l 1).toNatClampNeg)) < (3 * p * l 3)
      · refine ⟨0, Or.inr ⟨rfl, ?_⟩, fun Q q => ⟨v17, fun x ex => ?_⟩⟩
        · rw [Int32.lt_iff_toInt_lt, e1, e2] at hc
          rw [hk2]; omega
        · subst ex
          refine ⟨v17, fun x ex => ?_⟩
          subst ex
          refine ⟨v17, fun x ex => ?_⟩
          subst ex
          exact ⟨v17, fun _ => ⟨v17, fun z => absurd h2 z, fun _ => mlen hs hf hg hd a8 ⟨fun _ => q, fun z => absurd hc z⟩⟩, fun z => absurd z h0⟩
      · refine ⟨1, Or.inl ⟨rfl, ?_⟩, fun Q q => ⟨v17, fun x ex => ?_⟩⟩
        · rw [Int32.lt_iff_toInt_lt, e1, e2] at hc
          rw [hk2]; omega
        · subst ex
          refine ⟨v17, fun x ex => ?_⟩
          subst ex
          refine ⟨v17, fun x ex => ?_⟩
          subst ex
          exact ⟨v17, fun _ => ⟨v17, fun z => absurd h2 z, fun _ => mlen hs hf hg hd a8 ⟨fun z => absurd z hc, fun _ => q⟩⟩, fun z => absurd z h0⟩
    · obtain ⟨r, hr, he⟩ := keeps_loop (l := l) hs hk hf hg hd l0 hl 360 0 1 (by omega) (Or.inr rfl)
      refine ⟨r, ?_, fun Q q => ⟨v17, fun x ex => ?_⟩⟩
      · rcases hr with ⟨z1, z2, z3⟩ | ⟨z1, z2⟩
        · exact Or.inl ⟨z1, (loop h0 h2).mpr z3⟩
        · exact Or.inr ⟨z1, fun z => z2 ⟨rfl, (loop h0 h2).mp z⟩⟩
      · subst ex
        refine ⟨v17, fun x ex => ?_⟩
        subst ex
        refine ⟨v17, fun x ex => ?_⟩
        subst ex
        exact ⟨v17, fun _ => ⟨v17, fun _ => he Q q, fun z => absurd z h2⟩, fun z => absurd z h0⟩
