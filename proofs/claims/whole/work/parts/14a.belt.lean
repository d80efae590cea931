/-! the belt: what a bottle is judged, and how it comes off -/
theorem ti_lit20 : (20 : Int32).toInt = 20 := by decide
theorem ti_litm20 : (-20 : Int32).toInt = -20 := by decide
theorem ti_lit0 : (0 : Int32).toInt = 0 := by decide
theorem ti_lit1 : (1 : Int32).toInt = 1 := by decide
def vdV (b p : Nat → Int32) : Int32 := if b 6 = 0 then (if p (b 2).toNatClampNeg = 0 then (if (if 0 ≤ (b 5 - b 4) then (b 5 - b 4) else 0 - (b 5 - b 4)) ≤ (20 : Int32) then 0 else 6) else 5) else b 6
theorem vdV_in {b p : Nat → Int32} (h : bOK b) : vp_in (vdV b p) 7 := by
  unfold vdV
  by_cases h1 : b 6 = 0
  · rw [if_pos h1]
    by_cases h2 : p (b 2).toNatClampNeg = 0
    · rw [if_pos h2]
      by_cases h3 : (if 0 ≤ (b 5 - b 4) then (b 5 - b 4) else 0 - (b 5 - b 4)) ≤ (20 : Int32)
      · rw [if_pos h3]; unfold vp_in; decide
      · rw [if_neg h3]; unfold vp_in; decide
    · rw [if_neg h2]; unfold vp_in; decide
  · rw [if_neg h1]
    have := h.2.1
    rw [vp_in_iff] at this ⊢
    omega
theorem vd_c {τ : St} {c : Nat} (hm : vp_in (τ c 2) 30) {Q : Int32 → St → Prop} (q : Q (vdV (τ c) (τ 60)) τ) : wp_X9_verdict Q c τ := by
  unfold vdV at q
  refine ⟨fun h1 => ⟨hm, fun h2 => ⟨fun h3 => ?_, fun h3 => ?_⟩, fun h2 => ?_⟩, fun h1 => ?_⟩
  · rw [if_pos h1, if_pos h2, if_pos h3] at q; exact q
  · rw [if_pos h1, if_pos h2, if_neg h3] at q; exact q
  · rw [if_pos h1, if_neg h2] at q; exact q
  · rw [if_neg h1] at q; exact q
/-- the two ways to say 'off by more than 20' -/
theorem off20 {x : Int32} (h1 : -3000 ≤ x.toInt) (h2 : x.toInt ≤ 3000) : (if 0 ≤ x then x else 0 - x) ≤ (20 : Int32) ↔ ¬ (20 : Int32) < x ∧ (-20 : Int32) ≤ x := by
  have e : (0 - x).toInt = - x.toInt := by
    rw [ti_sub (by rw [ti_lit0]; omega) (by rw [ti_lit0]; omega), ti_lit0]
    omega
  simp only [Int32.le_iff_toInt_le, Int32.lt_iff_toInt_lt, ti_lit20, ti_litm20, ti_lit0]
  by_cases h : 0 ≤ x.toInt
  · rw [if_pos h]; omega
  · rw [if_neg h, e]; omega
theorem vd_m {σ μ : St} {c k : Nat} (hk : k < 12) (e2 : σ c 2 = μ 24 k) (e4 : σ c 4 = μ 27 k) (e5 : σ c 5 = μ 26 k) (e6 : σ c 6 = μ 28 k) (hok : bOK (σ c)) (hp : ∀ j, j < 30 → σ 60 j = μ 19 j) {Q : Int32 → St → Prop} (q : Q (vdV (σ c) (σ 60)) μ) : wp_X10_judgeOf Q (nI k) μ := by
  have hin : vp_in (nI k) 12 := vp_in_nI hk (by decide)
  have hcl : (nI k).toNatClampNeg = k := nI_clamp (by omega)
  have hm : vp_in (μ 24 k) 30 := by rw [← e2]; exact hok.1
  have h6 := hok.2.1
  rw [vp_in_iff] at h6
  have hx : (σ c 5 - σ c 4).toInt = (σ c 5).toInt - (σ c 4).toInt := ti_sub (by have := hok.2.2; omega) (by have := hok.2.2; omega)
  have ho := off20 (x := σ c 5 - σ c 4) (by have := hok.2.2; omega) (by have := hok.2.2; omega)
  unfold vdV at q
  unfold wp_X10_judgeOf
  rw [hcl, ← e2, ← e4, ← e5, ← e6]
  have hp2 := hp _ (vp_lt hok.1)
  have z6 : σ c 6 ≤ 0 ↔ σ c 6 = 0 := by
    rw [Int32.le_iff_toInt_le, ti_lit0]
    constructor
    · intro z
      exact Int32.toInt_inj.mp (by rw [ti_lit0]; omega)
    · intro z
      rw [z, ti_lit0]
      omega
  refine ⟨hin, fun h1 => ⟨hin, hin, fun x ex => ⟨hin, hok.1, fun h2 => ⟨fun h3 => ?_, fun h3 => ⟨fun h4 => ?_, fun h4 => ?_⟩⟩, fun h2 => ?_⟩⟩, fun h1 => ⟨hin, ?_⟩⟩
  · subst ex
    rw [if_pos (z6.mp h1), if_pos (hp2.trans h2), if_neg (fun z => (ho.mp z).1 h3)] at q
    exact q
  · subst ex
    rw [if_pos (z6.mp h1), if_pos (hp2.trans h2), if_pos (ho.mpr ⟨h3, h4⟩)] at q
    exact q
  · subst ex
    rw [if_pos (z6.mp h1), if_pos (hp2.trans h2), if_neg (fun z => h4 (ho.mp z).2)] at q
    exact q
  · rw [if_pos (z6.mp h1), if_neg (fun z => h2 (hp2.symm.trans z))] at q
    exact q
  · rw [if_neg (fun z => h1 (z6.mpr z))] at q
    exact q
theorem mod12 {e k : Nat} (he : e < 12) (hk : k ≤ 12) : jrem (nI e + nI k) 12 = nI ((e + k) % 12) := by
  rw [nI_add]
  exact jrem_nI (d := 12) (by omega) (by decide) (by decide)
theorem fe_c {σ : St} {e k : Nat} (he : e < 12) (hk : k ≤ 12) (h1 : σ 64 1 = nI e) {v : Int32} (hv : v = nI k) {Q : Nat → St → Prop} (q : Q (66 + (e + k) % 12) σ) : wp_X0_fromEldest Q v σ := by
  subst hv
  unfold wp_X0_fromEldest
  have hl : (e + k) % 12 < 12 := Nat.mod_lt _ (by decide)
  rw [h1, mod12 he hk]
  refine ⟨vp_in_nI hl (by decide), ?_⟩
  rw [nI_clamp (by omega)]
  exact q
set_option maxHeartbeats 1000000 in
theorem j_bottle {σ μ : St} (h : RR σ μ) (a : Int32) (b : Int32) : JJ RR (fun Q => wp_X9_bottle Q a b σ) (fun Q => wp_X10_bottle Q a b μ) := by
  obtain ⟨e, n, b1, b2, b3, b4, b5, b6⟩ := h.2.2.2.2.1
  have em1 : (μ 0 32 - 1).toInt = (n : Int) - 1 := by
    rw [b5, ti_sub (by rw [nI_toInt (by omega), ti_lit1]; omega) (by rw [nI_toInt (by omega), ti_lit1]; omega), nI_toInt (by omega), ti_lit1]
  rcases c_btw a 0 (μ 0 32 - 1) with ⟨h1, h2, _, hm⟩ | ⟨ha, _, hm⟩
  · have hr := rng h1 h2
    rw [em1, ti_lit0] at hr
    obtain ⟨k, k1, k2, k3⟩ := nI_ex hr.1
    have hk : k < n := by omega
    have hlt : a < σ 64 2 := by rw [b4, k3]; exact nI_lt hk (by omega)
    have hin : vp_in a 12 := by rw [k3]; exact vp_in_nI (by omega) (by decide)
    have hcl : a.toNatClampNeg = k := by rw [k3]; exact nI_clamp (by omega)
    have hc : ∀ (Q : Nat → St → Prop) (τ : St), τ = σ → Q (66 + (e + k) % 12) τ → wp_X0_fromEldest Q a τ := fun Q τ et q => by
      subst et
      exact fe_c b1 (by omega) b3 k3 q
    have hkd : kcL.getD (66 + (e + k) % 12) 999 = 1 := kc_ringN _ (Nat.mod_lt _ (by decide))
    obtain ⟨g0, g1, g2, g3, g5, g4, g6, gok⟩ := b6 k hk
    by_cases z0 : b = 0
    · subst z0
      refine ⟨σ (66 + (e + k) % 12) 0, σ, μ, h, fun Q q => ?_, fun Q q => ?_⟩
      · unfold wp_X9_bottle
        refine ⟨fun z => absurd z h1, fun _ => ⟨fun _ => hc _ _ rfl ?_, fun z => absurd hlt z⟩⟩
        repeat' first | exact q | assumption | with_reducible refine And.intro ?_ ?_ | (intro z; contradiction) | (intro z; exact absurd z (by decide)) | (intro z; exact absurd rfl z) | (intro x e; subst e) | intro _
      · rw [g0, ← hcl] at q
        unfold wp_X10_bottle
        refine hm _ _ ?_
        repeat' first | exact q | assumption | with_reducible refine And.intro ?_ ?_ | (intro z; contradiction) | (intro z; exact absurd z (by decide)) | (intro z; exact absurd rfl z) | (intro x e; subst e) | intro _
    · skip
      by_cases z1 : b = 1
      · subst z1
        refine ⟨σ (66 + (e + k) % 12) 1, σ, μ, h, fun Q q => ?_, fun Q q => ?_⟩
        · unfold wp_X9_bottle
          refine ⟨fun z => absurd z h1, fun _ => ⟨fun _ => hc _ _ rfl ?_, fun z => absurd hlt z⟩⟩
          repeat' first | exact q | assumption | with_reducible refine And.intro ?_ ?_ | (intro z; contradiction) | (intro z; exact absurd z (by decide)) | (intro z; exact absurd rfl z) | (intro x e; subst e) | intro _
        · rw [g1, ← hcl] at q
          unfold wp_X10_bottle
          refine hm _ _ ?_
          repeat' first | exact q | assumption | with_reducible refine And.intro ?_ ?_ | (intro z; contradiction) | (intro z; exact absurd z (by decide)) | (intro z; exact absurd rfl z) | (intro x e; subst e) | intro _
      · skip
        by_cases z2 : b = 2
        · subst z2
          refine ⟨σ (66 + (e + k) % 12) 2, σ, μ, h, fun Q q => ?_, fun Q q => ?_⟩
          · unfold wp_X9_bottle
            refine ⟨fun z => absurd z h1, fun _ => ⟨fun _ => hc _ _ rfl ?_, fun z => absurd hlt z⟩⟩
            repeat' first | exact q | assumption | with_reducible refine And.intro ?_ ?_ | (intro z; contradiction) | (intro z; exact absurd z (by decide)) | (intro z; exact absurd rfl z) | (intro x e; subst e) | intro _
          · rw [g2, ← hcl] at q
            unfold wp_X10_bottle
            refine hm _ _ ?_
            repeat' first | exact q | assumption | with_reducible refine And.intro ?_ ?_ | (intro z; contradiction) | (intro z; exact absurd z (by decide)) | (intro z; exact absurd rfl z) | (intro x e; subst e) | intro _
        · skip
          by_cases z3 : b = 3
          · subst z3
            refine ⟨σ (66 + (e + k) % 12) 3, σ, μ, h, fun Q q => ?_, fun Q q => ?_⟩
            · unfold wp_X9_bottle
              refine ⟨fun z => absurd z h1, fun _ => ⟨fun _ => hc _ _ rfl ?_, fun z => absurd hlt z⟩⟩
              repeat' first | exact q | assumption | with_reducible refine And.intro ?_ ?_ | (intro z; contradiction) | (intro z; exact absurd z (by decide)) | (intro z; exact absurd rfl z) | (intro x e; subst e) | intro _
            · rw [g3, ← hcl] at q
              unfold wp_X10_bottle
              refine hm _ _ ?_
              repeat' first | exact q | assumption | with_reducible refine And.intro ?_ ?_ | (intro z; contradiction) | (intro z; exact absurd z (by decide)) | (intro z; exact absurd rfl z) | (intro x e; subst e) | intro _
          · skip
            by_cases z4 : b = 4
            · subst z4
              refine ⟨σ (66 + (e + k) % 12) 5, σ, μ, h, fun Q q => ?_, fun Q q => ?_⟩
              · unfold wp_X9_bottle
                refine ⟨fun z => absurd z h1, fun _ => ⟨fun _ => hc _ _ rfl ?_, fun z => absurd hlt z⟩⟩
                repeat' first | exact q | assumption | with_reducible refine And.intro ?_ ?_ | (intro z; contradiction) | (intro z; exact absurd z (by decide)) | (intro z; exact absurd rfl z) | (intro x e; subst e) | intro _
              · rw [g5, ← hcl] at q
                unfold wp_X10_bottle
                refine hm _ _ ?_
                repeat' first | exact q | assumption | with_reducible refine And.intro ?_ ?_ | (intro z; contradiction) | (intro z; exact absurd z (by decide)) | (intro z; exact absurd rfl z) | (intro x e; subst e) | intro _
            · skip
              by_cases z5 : b = 5
              · subst z5
                refine ⟨vdV (σ (66 + (e + k) % 12)) (σ 60), σ, μ, h, fun Q q => ?_, fun Q q => ?_⟩
                · unfold wp_X9_bottle
                  refine ⟨fun z => absurd z h1, fun _ => ⟨fun _ => hc _ _ rfl ?_, fun z => absurd hlt z⟩⟩
                  have q2 := vd_c (τ := σ) (c := 66 + (e + k) % 12) (Q := fun r11 σ12 => Q r11 σ12) gok.1 q
                  repeat' first | exact q | assumption | with_reducible refine And.intro ?_ ?_ | (intro z; contradiction) | (intro z; exact absurd z (by decide)) | (intro z; exact absurd rfl z) | (intro x e; subst e) | intro _
                · unfold wp_X10_bottle
                  refine hm _ _ ?_
                  have q2 : wp_X10_judgeOf (fun r14 σ15 => Q r14 σ15) a μ := by
                    rw [k3]
                    exact vd_m (by omega) g2 g4 g5 g6 gok (fun j hj => (h.2.2.1.1 j hj).2.2.1) q
                  repeat' first | exact q | assumption | with_reducible refine And.intro ?_ ?_ | (intro z; contradiction) | (intro z; exact absurd z (by decide)) | (intro z; exact absurd rfl z) | (intro x e; subst e) | intro _
              · skip
                refine ⟨-1, σ, μ, h, fun Q q => ?_, fun Q q => ?_⟩
                · unfold wp_X9_bottle
                  refine ⟨fun z => absurd z h1, fun _ => ⟨fun _ => hc _ _ rfl ?_, fun z => absurd hlt z⟩⟩
                  repeat' first | exact q | assumption | with_reducible refine And.intro ?_ ?_ | (intro z; contradiction) | (intro z; exact absurd z (by decide)) | (intro z; exact absurd rfl z) | (intro x e; subst e) | intro _
                · unfold wp_X10_bottle
                  refine hm _ _ ?_
                  repeat' first | exact q | assumption | with_reducible refine And.intro ?_ ?_ | (intro z; contradiction) | (intro z; exact absurd z (by decide)) | (intro z; exact absurd rfl z) | (intro x e; subst e) | intro _
  · refine ⟨-1, σ, μ, h, fun Q q => ?_, fun Q q => ?_⟩
    · by_cases z : a < 0
      · exact ⟨fun _ => q, fun y => absurd z y⟩
      · refine ⟨fun y => absurd y z, fun _ => ⟨fun y => absurd y ?_, fun _ => q⟩⟩
        rcases ha with ha | ha
        · exact absurd ha z
        · rw [Int32.lt_iff_toInt_lt] at ha ⊢
          rw [em1] at ha
          rw [b4, nI_toInt (by omega)]
          omega
    · unfold wp_X10_bottle
      refine hm _ _ ?_
      repeat' first | exact q | assumption | with_reducible refine And.intro ?_ ?_ | (intro z; contradiction) | (intro z; exact absurd z (by decide)) | (intro z; exact absurd rfl z) | (intro x e; subst e) | intro _
