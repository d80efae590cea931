/-! what each method asks of the state, and tells of it: read off the bytecode by a program (wip/gen/walk.py) -/
def jrem (x y : Int32) : Int32 := x - x / y * y
def bz (v : Int32) : Prop := narrow .boolean (.int v) = .int v
theorem kc0 : kcL.getD 0 999 = 9 := by decide +kernel
theorem kc1 : kcL.getD 1 999 = 3 := by decide +kernel
theorem kc2 : kcL.getD 2 999 = 300 := by decide +kernel
theorem kc3 : kcL.getD 3 999 = 301 := by decide +kernel
theorem kc4 : kcL.getD 4 999 = 2 := by decide +kernel
theorem kc5 : kcL.getD 5 999 = 108 := by decide +kernel
theorem kc6 : kcL.getD 6 999 = 108 := by decide +kernel
theorem kc7 : kcL.getD 7 999 = 2 := by decide +kernel
theorem kc8 : kcL.getD 8 999 = 108 := by decide +kernel
theorem kc9 : kcL.getD 9 999 = 108 := by decide +kernel
theorem kc10 : kcL.getD 10 999 = 2 := by decide +kernel
theorem kc11 : kcL.getD 11 999 = 108 := by decide +kernel
theorem kc12 : kcL.getD 12 999 = 108 := by decide +kernel
theorem kc13 : kcL.getD 13 999 = 2 := by decide +kernel
theorem kc14 : kcL.getD 14 999 = 108 := by decide +kernel
theorem kc15 : kcL.getD 15 999 = 108 := by decide +kernel
theorem kc16 : kcL.getD 16 999 = 2 := by decide +kernel
theorem kc17 : kcL.getD 17 999 = 108 := by decide +kernel
theorem kc18 : kcL.getD 18 999 = 108 := by decide +kernel
theorem kc19 : kcL.getD 19 999 = 2 := by decide +kernel
theorem kc20 : kcL.getD 20 999 = 108 := by decide +kernel
theorem kc21 : kcL.getD 21 999 = 108 := by decide +kernel
theorem kc22 : kcL.getD 22 999 = 2 := by decide +kernel
theorem kc23 : kcL.getD 23 999 = 108 := by decide +kernel
theorem kc24 : kcL.getD 24 999 = 108 := by decide +kernel
theorem kc25 : kcL.getD 25 999 = 8 := by decide +kernel
theorem kc26 : kcL.getD 26 999 = 8 := by decide +kernel
theorem kc27 : kcL.getD 27 999 = 8 := by decide +kernel
theorem kc28 : kcL.getD 28 999 = 8 := by decide +kernel
theorem kc29 : kcL.getD 29 999 = 8 := by decide +kernel
theorem kc30 : kcL.getD 30 999 = 8 := by decide +kernel
theorem kc31 : kcL.getD 31 999 = 8 := by decide +kernel
theorem kc32 : kcL.getD 32 999 = 8 := by decide +kernel
theorem kc33 : kcL.getD 33 999 = 8 := by decide +kernel
theorem kc34 : kcL.getD 34 999 = 8 := by decide +kernel
theorem kc35 : kcL.getD 35 999 = 8 := by decide +kernel
theorem kc36 : kcL.getD 36 999 = 8 := by decide +kernel
theorem kc37 : kcL.getD 37 999 = 8 := by decide +kernel
theorem kc38 : kcL.getD 38 999 = 8 := by decide +kernel
theorem kc39 : kcL.getD 39 999 = 8 := by decide +kernel
theorem kc40 : kcL.getD 40 999 = 8 := by decide +kernel
theorem kc41 : kcL.getD 41 999 = 7 := by decide +kernel
theorem kc42 : kcL.getD 42 999 = 302 := by decide +kernel
theorem kc43 : kcL.getD 43 999 = 4 := by decide +kernel
theorem kc44 : kcL.getD 44 999 = 106 := by decide +kernel
theorem kc45 : kcL.getD 45 999 = 106 := by decide +kernel
theorem kc46 : kcL.getD 46 999 = 4 := by decide +kernel
theorem kc47 : kcL.getD 47 999 = 106 := by decide +kernel
theorem kc48 : kcL.getD 48 999 = 106 := by decide +kernel
theorem kc49 : kcL.getD 49 999 = 4 := by decide +kernel
theorem kc50 : kcL.getD 50 999 = 106 := by decide +kernel
theorem kc51 : kcL.getD 51 999 = 106 := by decide +kernel
theorem kc52 : kcL.getD 52 999 = 4 := by decide +kernel
theorem kc53 : kcL.getD 53 999 = 106 := by decide +kernel
theorem kc54 : kcL.getD 54 999 = 106 := by decide +kernel
theorem kc55 : kcL.getD 55 999 = 6 := by decide +kernel
theorem kc56 : kcL.getD 56 999 = 106 := by decide +kernel
theorem kc57 : kcL.getD 57 999 = 5 := by decide +kernel
theorem kc58 : kcL.getD 58 999 = 130 := by decide +kernel
theorem kc59 : kcL.getD 59 999 = 130 := by decide +kernel
theorem kc60 : kcL.getD 60 999 = 230 := by decide +kernel
theorem kc61 : kcL.getD 61 999 = 130 := by decide +kernel
theorem kc62 : kcL.getD 62 999 = 130 := by decide +kernel
theorem kc63 : kcL.getD 63 999 = 106 := by decide +kernel
theorem kc64 : kcL.getD 64 999 = 0 := by decide +kernel
theorem kc65 : kcL.getD 65 999 = 303 := by decide +kernel
theorem kc66 : kcL.getD 66 999 = 1 := by decide +kernel
theorem kc67 : kcL.getD 67 999 = 1 := by decide +kernel
theorem kc68 : kcL.getD 68 999 = 1 := by decide +kernel
theorem kc69 : kcL.getD 69 999 = 1 := by decide +kernel
theorem kc70 : kcL.getD 70 999 = 1 := by decide +kernel
theorem kc71 : kcL.getD 71 999 = 1 := by decide +kernel
theorem kc72 : kcL.getD 72 999 = 1 := by decide +kernel
theorem kc73 : kcL.getD 73 999 = 1 := by decide +kernel
theorem kc74 : kcL.getD 74 999 = 1 := by decide +kernel
theorem kc75 : kcL.getD 75 999 = 1 := by decide +kernel
theorem kc76 : kcL.getD 76 999 = 1 := by decide +kernel
theorem kc77 : kcL.getD 77 999 = 1 := by decide +kernel
theorem kc78 : kcL.getD 78 999 = 106 := by decide +kernel
theorem kc79 : kcL.getD 79 999 = 104 := by decide +kernel
theorem kc80 : kcL.getD 80 999 = 104 := by decide +kernel
theorem kc81 : kcL.getD 81 999 = 107 := by decide +kernel
theorem km0 : kmL.getD 0 999 = 10 := by decide +kernel
theorem km1 : kmL.getD 1 999 = 148 := by decide +kernel
theorem km2 : kmL.getD 2 999 = 148 := by decide +kernel
theorem km3 : kmL.getD 3 999 = 117 := by decide +kernel
theorem km4 : kmL.getD 4 999 = 117 := by decide +kernel
theorem km5 : kmL.getD 5 999 = 117 := by decide +kernel
theorem km6 : kmL.getD 6 999 = 117 := by decide +kernel
theorem km7 : kmL.getD 7 999 = 103 := by decide +kernel
theorem km8 : kmL.getD 8 999 = 118 := by decide +kernel
theorem km9 : kmL.getD 9 999 = 118 := by decide +kernel
theorem km10 : kmL.getD 10 999 = 106 := by decide +kernel
theorem km11 : kmL.getD 11 999 = 106 := by decide +kernel
theorem km12 : kmL.getD 12 999 = 106 := by decide +kernel
theorem km13 : kmL.getD 13 999 = 106 := by decide +kernel
theorem km14 : kmL.getD 14 999 = 106 := by decide +kernel
theorem km15 : kmL.getD 15 999 = 104 := by decide +kernel
theorem km16 : kmL.getD 16 999 = 104 := by decide +kernel
theorem km17 : kmL.getD 17 999 = 130 := by decide +kernel
theorem km18 : kmL.getD 18 999 = 130 := by decide +kernel
theorem km19 : kmL.getD 19 999 = 230 := by decide +kernel
theorem km20 : kmL.getD 20 999 = 130 := by decide +kernel
theorem km21 : kmL.getD 21 999 = 130 := by decide +kernel
theorem km22 : kmL.getD 22 999 = 112 := by decide +kernel
theorem km23 : kmL.getD 23 999 = 112 := by decide +kernel
theorem km24 : kmL.getD 24 999 = 112 := by decide +kernel
theorem km25 : kmL.getD 25 999 = 112 := by decide +kernel
theorem km26 : kmL.getD 26 999 = 112 := by decide +kernel
theorem km27 : kmL.getD 27 999 = 112 := by decide +kernel
theorem km28 : kmL.getD 28 999 = 112 := by decide +kernel
theorem km29 : kmL.getD 29 999 = 107 := by decide +kernel
theorem km30 : kmL.getD 30 999 = 106 := by decide +kernel
theorem km31 : kmL.getD 31 999 = 106 := by decide +kernel
def wp_X0_fromEldest (Q : Nat → St → Prop) (v1 : Int32) (σ : St) : Prop :=
  vp_in (jrem ((σ 64 1) + v1) (12 : Int32)) 12 ∧ (Q (66 + (jrem ((σ 64 1) + v1) (12 : Int32)).toNatClampNeg) σ)
abbrev rm_X0_fromEldest : Room := { frames := 0, cells := 0, slots := 0, locals := 0 }
def wp_X0_putLast (Q : Nat → St → Prop) (σ : St) : Prop :=
  wp_X0_fromEldest (fun r1 σ2 => kcL.getD r1 999 = 1 ∧ (∀ σ4 : St, σ4 = up2 σ2 64 2 ((σ2 64 2) + (1 : Int32)) →
  Q r1 σ4)) (σ 64 2) σ
abbrev rm_X0_putLast : Room := { frames := 1, cells := 0, slots := 0, locals := 21 }
def wp_X0_takeEldest (Q : Nat → St → Prop) (σ : St) : Prop :=
  vp_in (σ 64 1) 12 ∧ (∀ σ2 : St, σ2 = up2 σ 64 1 (jrem ((σ 64 1) + (1 : Int32)) (12 : Int32)) →
  ∀ σ3 : St, σ3 = up2 σ2 64 2 ((σ2 64 2) - (1 : Int32)) →
  Q (66 + (σ 64 1).toNatClampNeg) σ3)
abbrev rm_X0_takeEldest : Room := { frames := 0, cells := 0, slots := 0, locals := 0 }
def wp_X2_change (Q : St → Prop) (o0 : Nat) (v1 : Int32) (v2 : Int32) (v3 : Int32) (σ : St) : Prop :=
  vp_in v1 8 ∧ (∀ σ2 : St, σ2 = up2 σ (o0 + 1) v1.toNatClampNeg v2 →
  vp_in v1 8 ∧ (∀ σ4 : St, σ4 = up2 σ2 (o0 + 2) v1.toNatClampNeg v3 →
  Q σ4))
abbrev rm_X2_change : Room := { frames := 0, cells := 0, slots := 0, locals := 0 }
def wp_J9_floorMod_7cf53 (Q : Int32 → St → Prop) (v0 : Int32) (v1 : Int32) (σ : St) : Prop :=
  (¬ v1 = 0) ∧ (∀ x2 : Int32, x2 = (jrem v0 v1) →
  (0 ≤ (v0 ^^^ v1) → (Q x2 σ)) ∧
  (¬ 0 ≤ (v0 ^^^ v1) → ((x2 = 0 → (Q x2 σ)) ∧
  (¬ x2 = 0 → (Q (x2 + v1) σ)))))
abbrev rm_J9_floorMod_7cf53 : Room := { frames := 0, cells := 0, slots := 0, locals := 0 }
def wB_X2_shift_2 (Q : St → Prop) (LL : St → Int32 → Prop) (o0 : Nat) (v1 : Int32) (σ : St) (v2 : Int32) : Prop :=
  ((8 : Int32) ≤ v2 → (Q σ)) ∧
  (¬ (8 : Int32) ≤ v2 → (vp_in v2 8 ∧ (wp_J9_floorMod_7cf53 (fun r3 σ4 =>
  vp_in v2 8 ∧ (∀ σ6 : St, σ6 = up2 σ4 (o0 + 1) v2.toNatClampNeg r3 →
  vp_in v2 8 ∧ (wp_J9_floorMod_7cf53 (fun r8 σ9 =>
  vp_in v2 8 ∧ (∀ σ11 : St, σ11 = up2 σ9 (o0 + 2) v2.toNatClampNeg r8 →
  ∀ x12 : Int32, x12 = v2 + (1 : Int32) →
  LL σ11 x12)) ((σ6 (o0 + 2) v2.toNatClampNeg) + v1) (360 : Int32) σ6))) ((σ (o0 + 1) v2.toNatClampNeg) + v1) (360 : Int32) σ)))
def wl_X2_shift_2 (Q : St → Prop) (o0 : Nat) (v1 : Int32) : Nat → St → Int32 → Prop
  | 0, _, _ => False
  | n + 1, σ, v2 => wB_X2_shift_2 Q (wl_X2_shift_2 Q o0 v1 n) o0 v1 σ v2
def wp_X2_shift (Q : St → Prop) (o0 : Nat) (v1 : Int32) (σ : St) : Prop :=
  ∃ n, wl_X2_shift_2 Q o0 v1 n σ (0 : Int32)
abbrev rm_X2_shift : Room := { frames := 1, cells := 0, slots := 0, locals := 22 }
def wB_X2_become_2 (Q : St → Prop) (LL : St → Int32 → Prop) (o0 : Nat) (o1 : Nat) (σ : St) (v2 : Int32) : Prop :=
  ((8 : Int32) ≤ v2 → (Q σ)) ∧
  (¬ (8 : Int32) ≤ v2 → (vp_in v2 8 ∧ (vp_in v2 8 ∧ (∀ σ4 : St, σ4 = up2 σ (o0 + 1) v2.toNatClampNeg (σ (o1 + 1) v2.toNatClampNeg) →
  vp_in v2 8 ∧ (vp_in v2 8 ∧ (∀ σ7 : St, σ7 = up2 σ4 (o0 + 2) v2.toNatClampNeg (σ4 (o1 + 2) v2.toNatClampNeg) →
  ∀ x8 : Int32, x8 = v2 + (1 : Int32) →
  LL σ7 x8))))))
def wl_X2_become_2 (Q : St → Prop) (o0 : Nat) (o1 : Nat) : Nat → St → Int32 → Prop
  | 0, _, _ => False
  | n + 1, σ, v2 => wB_X2_become_2 Q (wl_X2_become_2 Q o0 o1 n) o0 o1 σ v2
def wp_X2_become (Q : St → Prop) (o0 : Nat) (o1 : Nat) (σ : St) : Prop :=
  ∃ n, wl_X2_become_2 Q o0 o1 n σ (0 : Int32)
abbrev rm_X2_become : Room := { frames := 0, cells := 0, slots := 0, locals := 0 }
def wp_X9_wayUp (Q : Int32 → St → Prop) (v0 : Int32) (v1 : Int32) (σ : St) : Prop :=
  (v0 ≤ v1 → (Q (v1 - v0) σ)) ∧
  (¬ v0 ≤ v1 → (Q ((v1 - v0) + (360 : Int32)) σ))
abbrev rm_X9_wayUp : Room := { frames := 0, cells := 0, slots := 0, locals := 0 }
def wp_X2_length (Q : Int32 → St → Prop) (o0 : Nat) (v1 : Int32) (σ : St) : Prop :=
  vp_in v1 8 ∧ (vp_in v1 8 ∧ (wp_X9_wayUp (fun r3 σ4 =>
  Q r3 σ4) (σ (o0 + 1) v1.toNatClampNeg) (σ (o0 + 2) v1.toNatClampNeg) σ))
abbrev rm_X2_length : Room := { frames := 1, cells := 0, slots := 0, locals := 21 }
def wp_X2_isDone (Q : Int32 → St → Prop) (o0 : Nat) (v1 : Int32) (v2 : Int32) (σ : St) : Prop :=
  vp_in v1 8 ∧ (wp_X9_wayUp (fun r2 σ3 =>
  wp_X2_length (fun r4 σ5 =>
  (r4 ≤ r2 → (Q (0 : Int32) σ5)) ∧
  (¬ r4 ≤ r2 → (Q (1 : Int32) σ5))) o0 v1 σ3) (σ (o0 + 1) v1.toNatClampNeg) v2 σ)
abbrev rm_X2_isDone : Room := { frames := 2, cells := 0, slots := 0, locals := 42 }
def wp_X2_isInside (Q : Int32 → St → Prop) (o0 : Nat) (v1 : Int32) (v2 : Int32) (σ : St) : Prop :=
  vp_in v2 8 ∧ (vp_in v1 8 ∧ (wp_X9_wayUp (fun r3 σ4 =>
  wp_X2_length (fun r5 σ6 =>
  wp_X2_length (fun r7 σ8 =>
  (r7 < (r3 + r5) → (Q (0 : Int32) σ8)) ∧
  (¬ r7 < (r3 + r5) → (Q (1 : Int32) σ8))) o0 v2 σ6) o0 v1 σ4) (σ (o0 + 1) v2.toNatClampNeg) (σ (o0 + 1) v1.toNatClampNeg) σ))
abbrev rm_X2_isInside : Room := { frames := 2, cells := 0, slots := 0, locals := 42 }
def wp_X8_isBroken (Q : Int32 → St → Prop) (o0 : Nat) (o1 : Nat) (v2 : Int32) (σ : St) : Prop :=
  ((σ o0 0) = (0 : Int32) → (vp_in (σ o0 1) 8 ∧ (vp_in (σ o0 2) 8 ∧ (wp_X9_wayUp (fun r3 σ4 =>
  ((σ4 o0 3) ≤ r3 → (Q (0 : Int32) σ4)) ∧
  (¬ (σ4 o0 3) ≤ r3 → (Q (1 : Int32) σ4))) (σ (o1 + 2) (σ o0 1).toNatClampNeg) (σ (o1 + 1) (σ o0 2).toNatClampNeg) σ)))) ∧
  ((σ o0 0) = (1 : Int32) → (vp_in (σ o0 2) 8 ∧ (wp_X2_isDone (fun r8 σ9 =>
  (¬ r8 = 0 → (Q (1 : Int32) σ9)) ∧
  (r8 = 0 → (vp_in (σ9 o0 1) 8 ∧ (wp_X2_isDone (fun r12 σ13 =>
  (r12 = 0 → (Q (0 : Int32) σ13)) ∧
  (¬ r12 = 0 → (Q (1 : Int32) σ13))) o1 (σ9 o0 2) (σ9 (o1 + 1) (σ9 o0 1).toNatClampNeg) σ9)))) o1 (σ o0 1) (σ (o1 + 1) (σ o0 2).toNatClampNeg) σ))) ∧
  ((σ o0 0) = (2 : Int32) → (wp_X2_length (fun r16 σ17 =>
  ((((3 : Int32) * v2) * (σ17 o0 3)) ≤ (r16 * (500 : Int32)) → (Q (0 : Int32) σ17)) ∧
  (¬ (((3 : Int32) * v2) * (σ17 o0 3)) ≤ (r16 * (500 : Int32)) → (Q (1 : Int32) σ17))) o1 (σ o0 1) σ)) ∧
  (¬ (σ o0 0) = (0 : Int32) → ¬ (σ o0 0) = (1 : Int32) → ¬ (σ o0 0) = (2 : Int32) → (wp_X2_isInside (fun r20 σ21 =>
  (¬ r20 = 0 → (Q (0 : Int32) σ21)) ∧
  (r20 = 0 → (Q (1 : Int32) σ21))) o1 (σ o0 1) (σ o0 2) σ))
abbrev rm_X8_isBroken : Room := { frames := 3, cells := 0, slots := 0, locals := 64 }
def wB_X3_brokenIf_27 (Q : Int32 → St → Prop) (LL : St → Int32 → Prop) (σ : St) (v5 : Int32) : Prop :=
  ((σ 1 3) ≤ v5 → (Q (-1 : Int32) σ)) ∧
  (¬ (σ 1 3) ≤ v5 → (vp_in v5 16 ∧ (wp_X8_isBroken (fun r8 σ9 =>
  (r8 = 0 → (∀ x11 : Int32, x11 = v5 + (1 : Int32) →
  LL σ9 x11)) ∧
  (¬ r8 = 0 → (Q v5 σ9))) (25 + v5.toNatClampNeg) 22 (σ 1 4) σ)))
def wl_X3_brokenIf_27 (Q : Int32 → St → Prop) : Nat → St → Int32 → Prop
  | 0, _, _ => False
  | n + 1, σ, v5 => wB_X3_brokenIf_27 Q (wl_X3_brokenIf_27 Q n) σ v5
def wp_X3_brokenIf (Q : Int32 → St → Prop) (v1 : Int32) (v2 : Int32) (v3 : Int32) (v4 : Int32) (σ : St) : Prop :=
  vp_in v1 6 ∧ (wp_X2_become (fun σ3 =>
  wp_X2_change (fun σ5 =>
  ∃ n, wl_X3_brokenIf_27 Q n σ5 (0 : Int32)) 22 v2 v3 v4 σ3) 22 (4 + 3 * v1.toNatClampNeg) σ)
abbrev rm_X3_brokenIf : Room := { frames := 4, cells := 0, slots := 0, locals := 86 }
def wB_X3_anyBreaks_2 (Q : Int32 → St → Prop) (LL : St → Int32 → Prop) (v1 : Int32) (v2 : Int32) (σ : St) (v3 : Int32) : Prop :=
  ((6 : Int32) ≤ v3 → (Q (0 : Int32) σ)) ∧
  (¬ (6 : Int32) ≤ v3 → (vp_in v1 16 ∧ (vp_in v3 6 ∧ (wp_X8_isBroken (fun r4 σ5 =>
  (r4 = 0 → (∀ x7 : Int32, x7 = v3 + (1 : Int32) →
  LL σ5 x7)) ∧
  (¬ r4 = 0 → (Q (1 : Int32) σ5))) (25 + v1.toNatClampNeg) (4 + 3 * v3.toNatClampNeg) v2 σ))))
def wl_X3_anyBreaks_2 (Q : Int32 → St → Prop) (v1 : Int32) (v2 : Int32) : Nat → St → Int32 → Prop
  | 0, _, _ => False
  | n + 1, σ, v3 => wB_X3_anyBreaks_2 Q (wl_X3_anyBreaks_2 Q v1 v2 n) v1 v2 σ v3
def wp_X3_anyBreaks (Q : Int32 → St → Prop) (v1 : Int32) (v2 : Int32) (σ : St) : Prop :=
  ∃ n, wl_X3_anyBreaks_2 Q v1 v2 n σ (0 : Int32)
abbrev rm_X3_anyBreaks : Room := { frames := 4, cells := 0, slots := 0, locals := 86 }
def wB_X3_brokenAt_2 (Q : Int32 → St → Prop) (LL : St → Int32 → Prop) (v1 : Int32) (σ : St) (v2 : Int32) : Prop :=
  ((σ 1 3) ≤ v2 → (Q (-1 : Int32) σ)) ∧
  (¬ (σ 1 3) ≤ v2 → (wp_X3_anyBreaks (fun r2 σ3 =>
  (r2 = 0 → (∀ x5 : Int32, x5 = v2 + (1 : Int32) →
  LL σ3 x5)) ∧
  (¬ r2 = 0 → (Q v2 σ3))) v2 v1 σ))
def wl_X3_brokenAt_2 (Q : Int32 → St → Prop) (v1 : Int32) : Nat → St → Int32 → Prop
  | 0, _, _ => False
  | n + 1, σ, v2 => wB_X3_brokenAt_2 Q (wl_X3_brokenAt_2 Q v1 n) v1 σ v2
def wp_X3_brokenAt (Q : Int32 → St → Prop) (v1 : Int32) (σ : St) : Prop :=
  ∃ n, wl_X3_brokenAt_2 Q v1 n σ (0 : Int32)
abbrev rm_X3_brokenAt : Room := { frames := 5, cells := 0, slots := 0, locals := 109 }
def wp_X8_greatestPace (Q : Int32 → St → Prop) (o0 : Nat) (o1 : Nat) (σ : St) : Prop :=
  (¬ (σ o0 0) = (2 : Int32) → (Q (60 : Int32) σ)) ∧
  ((σ o0 0) = (2 : Int32) → (((1 : Int32) ≤ (σ o0 3) → (wp_X2_length (fun r3 σ4 =>
  (¬ ((3 : Int32) * (σ4 o0 3)) = 0) ∧ (Q ((r3 * (500 : Int32)) / ((3 : Int32) * (σ4 o0 3))) σ4)) o1 (σ o0 1) σ)) ∧
  (¬ (1 : Int32) ≤ (σ o0 3) → (Q (60 : Int32) σ))))
abbrev rm_X8_greatestPace : Room := { frames := 2, cells := 0, slots := 0, locals := 42 }
def wB_X3_greatestPace_15 (Q : Int32 → St → Prop) (L5 : St → Int32 → Int32 → Prop) (LL : St → Int32 → Int32 → Prop) (v2 : Int32) (σ : St) (v1 : Int32) (v3 : Int32) : Prop :=
  ((6 : Int32) ≤ v3 → (∀ x3 : Int32, x3 = v2 + (1 : Int32) →
  L5 σ v1 x3)) ∧
  (¬ (6 : Int32) ≤ v3 → (vp_in v2 16 ∧ (vp_in v3 6 ∧ (wp_X8_greatestPace (fun r6 σ7 =>
  ∀ x8 : Int32, x8 = (if r6 < v1 then r6 else v1) →
  ∀ x9 : Int32, x9 = v3 + (1 : Int32) →
  LL σ7 x8 x9) (25 + v2.toNatClampNeg) (4 + 3 * v3.toNatClampNeg) σ))))
def wl_X3_greatestPace_15 (Q : Int32 → St → Prop) (L5 : St → Int32 → Int32 → Prop) (v2 : Int32) : Nat → St → Int32 → Int32 → Prop
  | 0, _, _, _ => False
  | n + 1, σ, v1, v3 => wB_X3_greatestPace_15 Q L5 (wl_X3_greatestPace_15 Q L5 v2 n) v2 σ v1 v3
def wB_X3_greatestPace_5 (Q : Int32 → St → Prop) (LL : St → Int32 → Int32 → Prop) (σ : St) (v1 : Int32) (v2 : Int32) : Prop :=
  ((σ 1 3) ≤ v2 → (Q v1 σ)) ∧
  (¬ (σ 1 3) ≤ v2 → (∃ n, wl_X3_greatestPace_15 Q LL v2 n σ v1 (0 : Int32)))
def wl_X3_greatestPace_5 (Q : Int32 → St → Prop) : Nat → St → Int32 → Int32 → Prop
  | 0, _, _, _ => False
  | n + 1, σ, v1, v2 => wB_X3_greatestPace_5 Q (wl_X3_greatestPace_5 Q n) σ v1 v2
def wp_X3_greatestPace (Q : Int32 → St → Prop) (σ : St) : Prop :=
  ∃ n, wl_X3_greatestPace_5 Q n σ (60 : Int32) (0 : Int32)
abbrev rm_X3_greatestPace : Room := { frames := 3, cells := 0, slots := 0, locals := 63 }
def wp_X4_add (Q : St → Prop) (o0 : Nat) (v1 : Int32) (v2 : Int32) (σ : St) : Prop :=
  vp_in (σ o0 2) 6 ∧ (∀ σ2 : St, σ2 = up2 σ (o0 + 1) (σ o0 2).toNatClampNeg v1 →
  vp_in (σ2 o0 2) 6 ∧ (∀ σ4 : St, σ4 = up2 σ2 (o0 + 2) (σ2 o0 2).toNatClampNeg v2 →
  ∀ σ5 : St, σ5 = up2 σ4 o0 2 ((σ4 o0 2) + (1 : Int32)) →
  Q σ5))
abbrev rm_X4_add : Room := { frames := 0, cells := 0, slots := 0, locals := 0 }
def wp_X4_latest (Q : Int32 → St → Prop) (o0 : Nat) (σ : St) : Prop :=
  (¬ (σ o0 2) = 0 → (vp_in ((σ o0 2) - (1 : Int32)) 6 ∧ (Q (σ (o0 + 1) ((σ o0 2) - (1 : Int32)).toNatClampNeg) σ))) ∧
  ((σ o0 2) = 0 → (Q (-1 : Int32) σ))
abbrev rm_X4_latest : Room := { frames := 0, cells := 0, slots := 0, locals := 0 }
def wB_X4_lastAhead_13 (Q : Int32 → St → Prop) (LL : St → Int32 → Int32 → Prop) (o0 : Nat) (v1 : Int32) (σ : St) (v2 : Int32) (v3 : Int32) : Prop :=
  ((σ o0 2) ≤ v3 → (Q v2 σ)) ∧
  (¬ (σ o0 2) ≤ v3 → (vp_in v3 6 ∧ ((v1 < (σ (o0 + 1) v3.toNatClampNeg) → (∀ x5 : Int32, x5 = v3 + (1 : Int32) →
  LL σ v2 x5)) ∧
  (¬ v1 < (σ (o0 + 1) v3.toNatClampNeg) → (∀ x6 : Int32, x6 = v3 + (1 : Int32) →
  LL σ v3 x6)))))
def wl_X4_lastAhead_13 (Q : Int32 → St → Prop) (o0 : Nat) (v1 : Int32) : Nat → St → Int32 → Int32 → Prop
  | 0, _, _, _ => False
  | n + 1, σ, v2, v3 => wB_X4_lastAhead_13 Q (wl_X4_lastAhead_13 Q o0 v1 n) o0 v1 σ v2 v3
def wp_X4_lastAhead (Q : Int32 → St → Prop) (o0 : Nat) (v1 : Int32) (σ : St) : Prop :=
  ∀ x1 : Int32, x1 = (if (0 : Int32) < ((σ o0 2) - (1 : Int32)) then ((σ o0 2) - (1 : Int32)) else (0 : Int32)) →
  ∃ n, wl_X4_lastAhead_13 Q o0 v1 n σ x1 (0 : Int32)
abbrev rm_X4_lastAhead : Room := { frames := 1, cells := 0, slots := 0, locals := 21 }
def wp_X4_nextInRing (Q : Int32 → St → Prop) (o0 : Nat) (v1 : Int32) (σ : St) : Prop :=
  ((σ o0 2) ≤ (v1 + (1 : Int32)) → (Q (0 : Int32) σ)) ∧
  (¬ (σ o0 2) ≤ (v1 + (1 : Int32)) → (Q (v1 + (1 : Int32)) σ))
abbrev rm_X4_nextInRing : Room := { frames := 0, cells := 0, slots := 0, locals := 0 }
def wp_X4_below (Q : Int32 → St → Prop) (o0 : Nat) (v1 : Int32) (σ : St) : Prop :=
  wp_X4_lastAhead (fun r1 σ2 =>
  vp_in r1 6 ∧ (wp_X4_nextInRing (fun r4 σ5 =>
  vp_in r4 6 ∧ (wp_X9_wayUp (fun r7 σ8 =>
  (¬ r7 = 0 → (Q r7 σ8)) ∧
  (r7 = 0 → (Q (360 : Int32) σ8))) (σ2 (o0 + 1) r1.toNatClampNeg) (σ5 (o0 + 1) r4.toNatClampNeg) σ5)) o0 r1 σ2)) o0 v1 σ
abbrev rm_X4_below : Room := { frames := 2, cells := 0, slots := 0, locals := 44 }
def wp_X4_above (Q : Int32 → St → Prop) (o0 : Nat) (v1 : Int32) (σ : St) : Prop :=
  wp_X4_lastAhead (fun r1 σ2 =>
  wp_X4_nextInRing (fun r3 σ4 =>
  vp_in r3 6 ∧ (vp_in r1 6 ∧ (∀ x7 : Int32, x7 = ((σ4 (o0 + 2) r3.toNatClampNeg) - (σ4 (o0 + 2) r1.toNatClampNeg)) →
  vp_in r1 6 ∧ (wp_X4_below (fun r9 σ10 =>
  vp_in r1 6 ∧ (wp_X9_wayUp (fun r12 σ13 =>
  Q (((σ4 (o0 + 2) r1.toNatClampNeg) * r9) + (x7 * r12)) σ13) (σ10 (o0 + 1) r1.toNatClampNeg) v1 σ10)) o0 v1 σ4)))) o0 r1 σ2) o0 v1 σ
abbrev rm_X4_above : Room := { frames := 3, cells := 0, slots := 0, locals := 67 }
def wB_X5_sectionOf_2 (Q : Int32 → St → Prop) (LL : St → Int32 → Prop) (v1 : Int32) (σ : St) (v2 : Int32) : Prop :=
  ((6 : Int32) ≤ v2 → (Q (-1 : Int32) σ)) ∧
  (¬ (6 : Int32) ≤ v2 → (vp_in v2 6 ∧ ((¬ (σ 63 v2.toNatClampNeg) = v1 → (∀ x4 : Int32, x4 = v2 + (1 : Int32) →
  LL σ x4)) ∧
  ((σ 63 v2.toNatClampNeg) = v1 → (Q v2 σ)))))
def wl_X5_sectionOf_2 (Q : Int32 → St → Prop) (v1 : Int32) : Nat → St → Int32 → Prop
  | 0, _, _ => False
  | n + 1, σ, v2 => wB_X5_sectionOf_2 Q (wl_X5_sectionOf_2 Q v1 n) v1 σ v2
def wp_X5_sectionOf (Q : Int32 → St → Prop) (v1 : Int32) (σ : St) : Prop :=
  ∃ n, wl_X5_sectionOf_2 Q v1 n σ (0 : Int32)
abbrev rm_X5_sectionOf : Room := { frames := 0, cells := 0, slots := 0, locals := 0 }
def wp_X5_makeNew (Q : St → Prop) (v1 : Int32) (σ : St) : Prop :=
  vp_in v1 30 ∧ (∀ σ2 : St, σ2 = up2 σ 58 v1.toNatClampNeg (0 : Int32) →
  vp_in v1 30 ∧ (∀ σ4 : St, σ4 = up2 σ2 59 v1.toNatClampNeg (0 : Int32) →
  vp_in v1 30 ∧ (∀ σ6 : St, σ6 = up2 σ4 60 v1.toNatClampNeg (vp_nar .boolean (0 : Int32)) →
  Q σ6)))
abbrev rm_X5_makeNew : Room := { frames := 0, cells := 0, slots := 0, locals := 0 }
def wp_X5_enter (Q : St → Prop) (v1 : Int32) (v2 : Int32) (σ : St) : Prop :=
  (v2 = 0 → (vp_in v1 30 ∧ (vp_in v1 30 ∧ (∀ σ4 : St, σ4 = up2 σ 62 v1.toNatClampNeg ((σ 62 v1.toNatClampNeg) + (1 : Int32)) →
  Q σ4)))) ∧
  (¬ v2 = 0 → (vp_in v1 30 ∧ (vp_in v1 30 ∧ (∀ σ7 : St, σ7 = up2 σ 61 v1.toNatClampNeg ((σ 61 v1.toNatClampNeg) + (1 : Int32)) →
  Q σ7))))
abbrev rm_X5_enter : Room := { frames := 0, cells := 0, slots := 0, locals := 0 }
def wB_X6_find_2 (Q : Int32 → St → Prop) (LL : St → Int32 → Prop) (v1 : Int32) (σ : St) (v2 : Int32) : Prop :=
  ((σ 55 2) ≤ v2 → (Q (-1 : Int32) σ)) ∧
  (¬ (σ 55 2) ≤ v2 → (vp_in v2 6 ∧ ((¬ (σ 56 v2.toNatClampNeg) = v1 → (∀ x4 : Int32, x4 = v2 + (1 : Int32) →
  LL σ x4)) ∧
  ((σ 56 v2.toNatClampNeg) = v1 → (Q v2 σ)))))
def wl_X6_find_2 (Q : Int32 → St → Prop) (v1 : Int32) : Nat → St → Int32 → Prop
  | 0, _, _ => False
  | n + 1, σ, v2 => wB_X6_find_2 Q (wl_X6_find_2 Q v1 n) v1 σ v2
def wp_X6_find (Q : Int32 → St → Prop) (v1 : Int32) (σ : St) : Prop :=
  ∃ n, wl_X6_find_2 Q v1 n σ (0 : Int32)
abbrev rm_X6_find : Room := { frames := 0, cells := 0, slots := 0, locals := 0 }
def wb_X6_leave_60 (Q : St → Prop) (σ : St) : Prop :=
  ((σ 55 1) < (σ 55 2) → (Q σ)) ∧
  (¬ (σ 55 1) < (σ 55 2) → (∀ σ5 : St, σ5 = up2 σ 55 1 (0 : Int32) →
  Q σ5))
def wB_X6_leave_2 (Q : St → Prop) (LL : St → Int32 → Prop) (v1 : Int32) (σ : St) (v2 : Int32) : Prop :=
  ((σ 55 2) ≤ (v2 + (1 : Int32)) → (∀ σ2 : St, σ2 = up2 σ 55 2 ((σ 55 2) - (1 : Int32)) →
  ((σ2 55 1) ≤ v1 → (wb_X6_leave_60 Q σ2)) ∧
  (¬ (σ2 55 1) ≤ v1 → (∀ σ6 : St, σ6 = up2 σ2 55 1 ((σ2 55 1) - (1 : Int32)) →
  wb_X6_leave_60 Q σ6)))) ∧
  (¬ (σ 55 2) ≤ (v2 + (1 : Int32)) → (vp_in (v2 + (1 : Int32)) 6 ∧ (vp_in v2 6 ∧ (∀ σ9 : St, σ9 = up2 σ 56 v2.toNatClampNeg (σ 56 (v2 + (1 : Int32)).toNatClampNeg) →
  ∀ x10 : Int32, x10 = v2 + (1 : Int32) →
  LL σ9 x10))))
def wl_X6_leave_2 (Q : St → Prop) (v1 : Int32) : Nat → St → Int32 → Prop
  | 0, _, _ => False
  | n + 1, σ, v2 => wB_X6_leave_2 Q (wl_X6_leave_2 Q v1 n) v1 σ v2
def wp_X6_leave (Q : St → Prop) (v1 : Int32) (σ : St) : Prop :=
  ∃ n, wl_X6_leave_2 Q v1 n σ v1
abbrev rm_X6_leave : Room := { frames := 0, cells := 0, slots := 0, locals := 0 }
def wp_X6_join (Q : St → Prop) (v1 : Int32) (σ : St) : Prop :=
  vp_in (σ 55 2) 6 ∧ (∀ σ2 : St, σ2 = up2 σ 56 (σ 55 2).toNatClampNeg v1 →
  ∀ σ3 : St, σ3 = up2 σ2 55 2 ((σ2 55 2) + (1 : Int32)) →
  Q σ3)
abbrev rm_X6_join : Room := { frames := 0, cells := 0, slots := 0, locals := 0 }
def wp_X6_next (Q : Int32 → St → Prop) (σ : St) : Prop :=
  (¬ (σ 55 2) = 0 → (vp_in (σ 55 1) 6 ∧ (Q (σ 56 (σ 55 1).toNatClampNeg) σ))) ∧
  ((σ 55 2) = 0 → (Q (-1 : Int32) σ))
abbrev rm_X6_next : Room := { frames := 0, cells := 0, slots := 0, locals := 0 }
def wp_X6_pass (Q : St → Prop) (σ : St) : Prop :=
  ((σ 55 2) ≤ ((σ 55 1) + (1 : Int32)) → (∀ σ2 : St, σ2 = up2 σ 55 1 (0 : Int32) →
  Q σ2)) ∧
  (¬ (σ 55 2) ≤ ((σ 55 1) + (1 : Int32)) → (∀ σ3 : St, σ3 = up2 σ 55 1 ((σ 55 1) + (1 : Int32)) →
  Q σ3))
abbrev rm_X6_pass : Room := { frames := 0, cells := 0, slots := 0, locals := 0 }
def wp_X7_swapWithTold (Q : St → Prop) (v1 : Int32) (σ : St) : Prop :=
  vp_in v1 3 ∧ (kcL.getD (σ 42 v1.toNatClampNeg).toNatClampNeg 999 = 4 ∧ (kcL.getD (σ 41 1).toNatClampNeg 999 = 4 ∧ (vp_in v1 3 ∧ (∀ σ5 : St, σ5 = up2 σ 42 v1.toNatClampNeg (σ 41 1) →
  ∀ σ6 : St, σ6 = up2 σ5 41 1 (σ 42 v1.toNatClampNeg) →
  Q σ6))))
abbrev rm_X7_swapWithTold : Room := { frames := 0, cells := 0, slots := 0, locals := 0 }
def wp_X7_isClearAt (Q : Int32 → St → Prop) (o0 : Nat) (o1 : Nat) (v2 : Int32) (σ : St) : Prop :=
  wp_X4_below (fun r1 σ2 =>
  wp_X4_above (fun r3 σ4 =>
  wp_X4_below (fun r5 σ6 =>
  ∀ x7 : Int64, x7 = (((r3 + ((50 : Int32) * r1)).toInt64) * (r5.toInt64)) →
  wp_X4_above (fun r8 σ9 =>
  (0 < (lg_cmp x7 ((r8.toInt64) * (r1.toInt64))) → (Q (0 : Int32) σ9)) ∧
  (¬ 0 < (lg_cmp x7 ((r8.toInt64) * (r1.toInt64))) → (Q (1 : Int32) σ9))) o1 v2 σ6) o1 v2 σ4) o0 v2 σ2) o0 v2 σ
abbrev rm_X7_isClearAt : Room := { frames := 4, cells := 0, slots := 0, locals := 90 }
def wB_X7_isPairClear_34 (Q : Int32 → St → Prop) (LL : St → Int32 → Prop) (o0 : Nat) (o1 : Nat) (σ : St) (v2 : Int32) : Prop :=
  ((σ o1 2) ≤ v2 → (Q (1 : Int32) σ)) ∧
  (¬ (σ o1 2) ≤ v2 → (vp_in v2 6 ∧ (wp_X7_isClearAt (fun r4 σ5 =>
  (¬ r4 = 0 → (∀ x7 : Int32, x7 = v2 + (1 : Int32) →
  LL σ5 x7)) ∧
  (r4 = 0 → (Q (0 : Int32) σ5))) o0 o1 (σ (o1 + 1) v2.toNatClampNeg) σ)))
def wl_X7_isPairClear_34 (Q : Int32 → St → Prop) (o0 : Nat) (o1 : Nat) : Nat → St → Int32 → Prop
  | 0, _, _ => False
  | n + 1, σ, v2 => wB_X7_isPairClear_34 Q (wl_X7_isPairClear_34 Q o0 o1 n) o0 o1 σ v2
def wB_X7_isPairClear_2 (Q : Int32 → St → Prop) (LL : St → Int32 → Prop) (o0 : Nat) (o1 : Nat) (σ : St) (v2 : Int32) : Prop :=
  ((σ o0 2) ≤ v2 → (∃ n, wl_X7_isPairClear_34 Q o0 o1 n σ (0 : Int32))) ∧
  (¬ (σ o0 2) ≤ v2 → (vp_in v2 6 ∧ (wp_X7_isClearAt (fun r9 σ10 =>
  (¬ r9 = 0 → (∀ x12 : Int32, x12 = v2 + (1 : Int32) →
  LL σ10 x12)) ∧
  (r9 = 0 → (Q (0 : Int32) σ10))) o0 o1 (σ (o0 + 1) v2.toNatClampNeg) σ)))
def wl_X7_isPairClear_2 (Q : Int32 → St → Prop) (o0 : Nat) (o1 : Nat) : Nat → St → Int32 → Prop
  | 0, _, _ => False
  | n + 1, σ, v2 => wB_X7_isPairClear_2 Q (wl_X7_isPairClear_2 Q o0 o1 n) o0 o1 σ v2
def wp_X7_isPairClear (Q : Int32 → St → Prop) (o0 : Nat) (o1 : Nat) (σ : St) : Prop :=
  ∃ n, wl_X7_isPairClear_2 Q o0 o1 n σ (0 : Int32)
abbrev rm_X7_isPairClear : Room := { frames := 5, cells := 0, slots := 0, locals := 115 }
def wB_X7_isClear_11 (Q : Int32 → St → Prop) (L2 : St → Int32 → Prop) (LL : St → Int32 → Prop) (v1 : Int32) (σ : St) (v2 : Int32) : Prop :=
  ((3 : Int32) ≤ v2 → (∀ x4 : Int32, x4 = v1 + (1 : Int32) →
  L2 σ x4)) ∧
  (¬ (3 : Int32) ≤ v2 → (vp_in v1 3 ∧ (kcL.getD (σ 42 v1.toNatClampNeg).toNatClampNeg 999 = 4 ∧ (vp_in v2 3 ∧ (kcL.getD (σ 42 v2.toNatClampNeg).toNatClampNeg 999 = 4 ∧ (wp_X7_isPairClear (fun r9 σ10 =>
  (¬ r9 = 0 → (∀ x12 : Int32, x12 = v2 + (1 : Int32) →
  LL σ10 x12)) ∧
  (r9 = 0 → (Q (0 : Int32) σ10))) ((σ 42 v1.toNatClampNeg).toNatClampNeg) ((σ 42 v2.toNatClampNeg).toNatClampNeg) σ))))))
def wl_X7_isClear_11 (Q : Int32 → St → Prop) (L2 : St → Int32 → Prop) (v1 : Int32) : Nat → St → Int32 → Prop
  | 0, _, _ => False
  | n + 1, σ, v2 => wB_X7_isClear_11 Q L2 (wl_X7_isClear_11 Q L2 v1 n) v1 σ v2
def wB_X7_isClear_2 (Q : Int32 → St → Prop) (LL : St → Int32 → Prop) (σ : St) (v1 : Int32) : Prop :=
  ((3 : Int32) ≤ v1 → (Q (1 : Int32) σ)) ∧
  (¬ (3 : Int32) ≤ v1 → (∀ x2 : Int32, x2 = (v1 + (1 : Int32)) →
  ∃ n, wl_X7_isClear_11 Q LL v1 n σ x2))
def wl_X7_isClear_2 (Q : Int32 → St → Prop) : Nat → St → Int32 → Prop
  | 0, _, _ => False
  | n + 1, σ, v1 => wB_X7_isClear_2 Q (wl_X7_isClear_2 Q n) σ v1
def wp_X7_isClear (Q : Int32 → St → Prop) (σ : St) : Prop :=
  ∃ n, wl_X7_isClear_2 Q n σ (0 : Int32)
abbrev rm_X7_isClear : Room := { frames := 6, cells := 0, slots := 0, locals := 137 }
def wp_X7_distanceAbove (Q : Int64 → St → Prop) (o0 : Nat) (o1 : Nat) (v2 : Int32) (σ : St) : Prop :=
  wp_X4_above (fun r1 σ2 =>
  wp_X4_below (fun r3 σ4 =>
  ∀ x5 : Int64, x5 = ((r1.toInt64) * (r3.toInt64)) →
  wp_X4_above (fun r6 σ7 =>
  wp_X4_below (fun r8 σ9 =>
  ∀ x10 : Int64, x10 = ((r6.toInt64) * (r8.toInt64)) →
  Q (x5 - x10) σ9) o1 v2 σ7) o0 v2 σ4) o0 v2 σ2) o1 v2 σ
abbrev rm_X7_distanceAbove : Room := { frames := 4, cells := 0, slots := 0, locals := 90 }
def wp_X7_distanceBelow (Q : Int64 → St → Prop) (o0 : Nat) (o1 : Nat) (v2 : Int32) (σ : St) : Prop :=
  wp_X4_below (fun r1 σ2 =>
  wp_X4_below (fun r3 σ4 =>
  Q ((r1.toInt64) * (r3.toInt64)) σ4) o1 v2 σ2) o0 v2 σ
abbrev rm_X7_distanceBelow : Room := { frames := 3, cells := 0, slots := 0, locals := 67 }
def wp_X7_nearerDegree (Q : Int32 → St → Prop) (o0 : Nat) (o1 : Nat) (v2 : Int32) (v3 : Int32) (σ : St) : Prop :=
  wp_X7_distanceAbove (fun r1 σ2 =>
  wp_X7_distanceBelow (fun r3 σ4 =>
  ∀ x5 : Int64, x5 = (r1 * r3) →
  wp_X7_distanceAbove (fun r6 σ7 =>
  wp_X7_distanceBelow (fun r8 σ9 =>
  ∀ x10 : Int64, x10 = (r6 * r8) →
  (¬ (lg_cmp x10 x5) = 0 → ((0 ≤ (lg_cmp x10 x5) → (Q v2 σ9)) ∧
  (¬ 0 ≤ (lg_cmp x10 x5) → (Q v3 σ9)))) ∧
  ((lg_cmp x10 x5) = 0 → (Q (if v3 < v2 then v3 else v2) σ9))) o0 o1 v2 σ7) o0 o1 v3 σ4) o0 o1 v3 σ2) o0 o1 v2 σ
abbrev rm_X7_nearerDegree : Room := { frames := 5, cells := 0, slots := 0, locals := 116 }
def wB_X7_nearestDegree_37 (Q : Int32 → St → Prop) (LL : St → Int32 → Int32 → Prop) (o1 : Nat) (o2 : Nat) (σ : St) (v3 : Int32) (v4 : Int32) : Prop :=
  ((σ o2 2) ≤ v4 → (Q v3 σ)) ∧
  (¬ (σ o2 2) ≤ v4 → (vp_in v4 6 ∧ (wp_X7_nearerDegree (fun r4 σ5 =>
  ∀ x6 : Int32, x6 = v4 + (1 : Int32) →
  LL σ5 r4 x6) o1 o2 v3 (σ (o2 + 1) v4.toNatClampNeg) σ)))
def wl_X7_nearestDegree_37 (Q : Int32 → St → Prop) (o1 : Nat) (o2 : Nat) : Nat → St → Int32 → Int32 → Prop
  | 0, _, _, _ => False
  | n + 1, σ, v3, v4 => wB_X7_nearestDegree_37 Q (wl_X7_nearestDegree_37 Q o1 o2 n) o1 o2 σ v3 v4
def wB_X7_nearestDegree_5 (Q : Int32 → St → Prop) (LL : St → Int32 → Int32 → Prop) (o1 : Nat) (o2 : Nat) (σ : St) (v3 : Int32) (v4 : Int32) : Prop :=
  ((σ o1 2) ≤ v4 → (∃ n, wl_X7_nearestDegree_37 Q o1 o2 n σ v3 (0 : Int32))) ∧
  (¬ (σ o1 2) ≤ v4 → (vp_in v4 6 ∧ (wp_X7_nearerDegree (fun r8 σ9 =>
  ∀ x10 : Int32, x10 = v4 + (1 : Int32) →
  LL σ9 r8 x10) o1 o2 v3 (σ (o1 + 1) v4.toNatClampNeg) σ)))
def wl_X7_nearestDegree_5 (Q : Int32 → St → Prop) (o1 : Nat) (o2 : Nat) : Nat → St → Int32 → Int32 → Prop
  | 0, _, _, _ => False
  | n + 1, σ, v3, v4 => wB_X7_nearestDegree_5 Q (wl_X7_nearestDegree_5 Q o1 o2 n) o1 o2 σ v3 v4
def wp_X7_nearestDegree (Q : Int32 → St → Prop) (o1 : Nat) (o2 : Nat) (σ : St) : Prop :=
  ∃ n, wl_X7_nearestDegree_5 Q o1 o2 n σ (0 : Int32) (0 : Int32)
abbrev rm_X7_nearestDegree : Room := { frames := 6, cells := 0, slots := 0, locals := 143 }
def wp_X8_become (Q : St → Prop) (o0 : Nat) (v1 : Int32) (v2 : Int32) (v3 : Int32) (v4 : Int32) (σ : St) : Prop :=
  ∀ σ1 : St, σ1 = up2 σ o0 0 v1 →
  ∀ σ2 : St, σ2 = up2 σ1 o0 1 v2 →
  ∀ σ3 : St, σ3 = up2 σ2 o0 2 v3 →
  ∀ σ4 : St, σ4 = up2 σ3 o0 3 v4 →
  Q σ4
abbrev rm_X8_become : Room := { frames := 0, cells := 0, slots := 0, locals := 0 }
def wp_X9_isBetween (Q : Int32 → St → Prop) (v0 : Int32) (v1 : Int32) (v2 : Int32) (σ : St) : Prop :=
  (v0 < v1 → (Q (0 : Int32) σ)) ∧
  (¬ v0 < v1 → ((v2 < v0 → (Q (0 : Int32) σ)) ∧
  (¬ v2 < v0 → (Q (1 : Int32) σ))))
abbrev rm_X9_isBetween : Room := { frames := 0, cells := 0, slots := 0, locals := 0 }
def wp_X9_isSection (Q : Int32 → St → Prop) (v0 : Int32) (σ : St) : Prop :=
  wp_X9_isBetween (fun r1 σ2 =>
  bz r1 ∧ Q r1 σ2) v0 (0 : Int32) (5 : Int32) σ
abbrev rm_X9_isSection : Room := { frames := 1, cells := 0, slots := 0, locals := 22 }
def wp_X9_isAct (Q : Int32 → St → Prop) (v0 : Int32) (σ : St) : Prop :=
  wp_X9_isBetween (fun r1 σ2 =>
  bz r1 ∧ Q r1 σ2) v0 (0 : Int32) (7 : Int32) σ
abbrev rm_X9_isAct : Room := { frames := 1, cells := 0, slots := 0, locals := 22 }
def wp_X9_isDegree (Q : Int32 → St → Prop) (v0 : Int32) (σ : St) : Prop :=
  wp_X9_isBetween (fun r1 σ2 =>
  bz r1 ∧ Q r1 σ2) v0 (0 : Int32) (359 : Int32) σ
abbrev rm_X9_isDegree : Room := { frames := 1, cells := 0, slots := 0, locals := 22 }
def wp_X9_isSetting (Q : Int32 → St → Prop) (v0 : Int32) (v1 : Int32) (v2 : Int32) (v3 : Int32) (σ : St) : Prop :=
  wp_X9_isSection (fun r1 σ2 =>
  (r1 = 0 → (Q (0 : Int32) σ2)) ∧
  (¬ r1 = 0 → (wp_X9_isAct (fun r4 σ5 =>
  (r4 = 0 → (Q (0 : Int32) σ5)) ∧
  (¬ r4 = 0 → (wp_X9_isDegree (fun r7 σ8 =>
  (r7 = 0 → (Q (0 : Int32) σ8)) ∧
  (¬ r7 = 0 → (wp_X9_isDegree (fun r10 σ11 =>
  (r10 = 0 → (Q (0 : Int32) σ11)) ∧
  (¬ r10 = 0 → ((v2 = v3 → (Q (0 : Int32) σ11)) ∧
  (¬ v2 = v3 → (Q (1 : Int32) σ11))))) v3 σ8))) v2 σ5))) v1 σ2))) v0 σ
abbrev rm_X9_isSetting : Room := { frames := 2, cells := 0, slots := 0, locals := 42 }
def wp_X9_set (Q : Int32 → St → Prop) (v1 : Int32) (v2 : Int32) (v3 : Int32) (v4 : Int32) (σ : St) : Prop :=
  wp_X9_isSetting (fun r1 σ2 =>
  (¬ r1 = 0 → (wp_X3_brokenIf (fun r4 σ5 =>
  (r4 = (-1 : Int32) → (vp_in v1 6 ∧ (wp_X2_change (fun σ9 =>
  Q (1 : Int32) σ9) (4 + 3 * v1.toNatClampNeg) v2 v3 v4 σ5))) ∧
  (¬ r4 = (-1 : Int32) → (Q ((-100 : Int32) - r4) σ5))) v1 v2 v3 v4 σ2)) ∧
  (r1 = 0 → (Q (-1 : Int32) σ2))) v1 v2 v3 v4 σ
abbrev rm_X9_set : Room := { frames := 5, cells := 0, slots := 0, locals := 111 }
def wp_X9_turn (Q : Int32 → St → Prop) (v1 : Int32) (v2 : Int32) (σ : St) : Prop :=
  wp_X9_isSection (fun r1 σ2 =>
  (r1 = 0 → (Q (-1 : Int32) σ2)) ∧
  (¬ r1 = 0 → (wp_X9_isBetween (fun r4 σ5 =>
  (¬ r4 = 0 → (vp_in v1 6 ∧ (wp_X2_shift (fun σ9 =>
  Q (1 : Int32) σ9) (4 + 3 * v1.toNatClampNeg) v2 σ5))) ∧
  (r4 = 0 → (Q (-1 : Int32) σ5))) v2 (-359 : Int32) (359 : Int32) σ2))) v1 σ
abbrev rm_X9_turn : Room := { frames := 2, cells := 0, slots := 0, locals := 44 }
def wp_X9_copy (Q : Int32 → St → Prop) (v1 : Int32) (v2 : Int32) (σ : St) : Prop :=
  wp_X9_isSection (fun r1 σ2 =>
  (r1 = 0 → (Q (-1 : Int32) σ2)) ∧
  (¬ r1 = 0 → (wp_X9_isSection (fun r4 σ5 =>
  (¬ r4 = 0 → (vp_in v1 6 ∧ (vp_in v2 6 ∧ (wp_X2_become (fun σ10 =>
  Q (1 : Int32) σ10) (4 + 3 * v1.toNatClampNeg) (4 + 3 * v2.toNatClampNeg) σ5)))) ∧
  (r4 = 0 → (Q (-1 : Int32) σ5))) v2 σ2))) v1 σ
abbrev rm_X9_copy : Room := { frames := 2, cells := 0, slots := 0, locals := 42 }
def wb_X9_isLaw_37 (Q : Int32 → St → Prop) (v0 : Int32) (v3 : Int32) (σ : St) : Prop :=
  (¬ v0 = 0 → (wp_X9_isBetween (fun r12 σ13 =>
  bz r12 ∧ Q r12 σ13) v3 (0 : Int32) (60000 : Int32) σ)) ∧
  (v0 = 0 → (wp_X9_isBetween (fun r14 σ15 =>
  bz r14 ∧ Q r14 σ15) v3 (0 : Int32) (359 : Int32) σ))
def wp_X9_isLaw (Q : Int32 → St → Prop) (v0 : Int32) (v1 : Int32) (v2 : Int32) (v3 : Int32) (σ : St) : Prop :=
  wp_X9_isBetween (fun r1 σ2 =>
  (r1 = 0 → (Q (0 : Int32) σ2)) ∧
  (¬ r1 = 0 → (wp_X9_isAct (fun r4 σ5 =>
  (r4 = 0 → (Q (0 : Int32) σ5)) ∧
  (¬ r4 = 0 → (wp_X9_isAct (fun r7 σ8 =>
  (¬ r7 = 0 → ((¬ v1 = v2 → (wb_X9_isLaw_37 Q v0 v3 σ8)) ∧
  (v1 = v2 → ((v0 = (2 : Int32) → (wb_X9_isLaw_37 Q v0 v3 σ8)) ∧
  (¬ v0 = (2 : Int32) → (Q (0 : Int32) σ8)))))) ∧
  (r7 = 0 → (Q (0 : Int32) σ8))) v2 σ5))) v1 σ2))) v0 (0 : Int32) (3 : Int32) σ
abbrev rm_X9_isLaw : Room := { frames := 2, cells := 0, slots := 0, locals := 42 }
def wp_X9_law (Q : Int32 → St → Prop) (v1 : Int32) (v2 : Int32) (v3 : Int32) (v4 : Int32) (σ : St) : Prop :=
  wp_X9_isLaw (fun r1 σ2 =>
  (¬ r1 = 0 → (((σ2 1 3) < (16 : Int32) → (∀ x5 : Int32, x5 = (σ2 1 3) →
  vp_in x5 16 ∧ (wp_X8_become (fun σ8 =>
  wp_X3_anyBreaks (fun r9 σ10 =>
  (r9 = 0 → (∀ σ12 : St, σ12 = up2 σ10 1 3 (x5 + (1 : Int32)) →
  Q x5 σ12)) ∧
  (¬ r9 = 0 → (Q ((-100 : Int32) - x5) σ10))) x5 (σ8 1 4) σ8) (25 + x5.toNatClampNeg) v1 v2 v3 v4 σ2))) ∧
  (¬ (σ2 1 3) < (16 : Int32) → (Q (-2 : Int32) σ2)))) ∧
  (r1 = 0 → (Q (-1 : Int32) σ2))) v1 v2 v3 v4 σ
abbrev rm_X9_law : Room := { frames := 5, cells := 0, slots := 0, locals := 109 }
def wp_X9_repeal (Q : Int32 → St → Prop) (σ : St) : Prop :=
  (¬ (σ 1 3) = 0 → (∀ σ2 : St, σ2 = up2 σ 1 3 ((σ 1 3) - (1 : Int32)) →
  Q (σ2 1 3) σ2)) ∧
  ((σ 1 3) = 0 → (Q (-4 : Int32) σ))
abbrev rm_X9_repeal : Room := { frames := 0, cells := 0, slots := 0, locals := 0 }
def wp_X9_pace (Q : Int32 → St → Prop) (v1 : Int32) (σ : St) : Prop :=
  wp_X9_isBetween (fun r1 σ2 =>
  (¬ r1 = 0 → (wp_X3_brokenAt (fun r4 σ5 =>
  (r4 = (-1 : Int32) → (∀ x7 : Int32, x7 = (σ5 1 4) →
  ∀ σ8 : St, σ8 = up2 σ5 1 4 v1 →
  Q x7 σ8)) ∧
  (¬ r4 = (-1 : Int32) → (Q ((-100 : Int32) - r4) σ5))) v1 σ2)) ∧
  (r1 = 0 → (Q (-1 : Int32) σ2))) v1 (1 : Int32) (60 : Int32) σ
abbrev rm_X9_pace : Room := { frames := 6, cells := 0, slots := 0, locals := 131 }
def wp_X9_fastest (Q : Int32 → St → Prop) (σ : St) : Prop :=
  wp_X3_greatestPace (fun r1 σ2 =>
  Q r1 σ2) σ
abbrev rm_X9_fastest : Room := { frames := 4, cells := 0, slots := 0, locals := 86 }
def wp_X9_asNumber (Q : Int32 → St → Prop) (v0 : Int32) (σ : St) : Prop :=
  (v0 = 0 → (Q (0 : Int32) σ)) ∧
  (¬ v0 = 0 → (Q (1 : Int32) σ))
abbrev rm_X9_asNumber : Room := { frames := 0, cells := 0, slots := 0, locals := 0 }
def wp_X9_act (Q : Int32 → St → Prop) (v1 : Int32) (v2 : Int32) (v3 : Int32) (v4 : Int32) (σ : St) : Prop :=
  wp_X9_isSection (fun r1 σ2 =>
  (r1 = 0 → (Q (-1 : Int32) σ2)) ∧
  (¬ r1 = 0 → (wp_X9_isAct (fun r4 σ5 =>
  (¬ r4 = 0 → (vp_in v1 6 ∧ ((v3 = (0 : Int32) → (vp_in v2 8 ∧ (Q (σ5 ((4 + 3 * v1.toNatClampNeg) + 1) v2.toNatClampNeg) σ5))) ∧
  (v3 = (1 : Int32) → (vp_in v2 8 ∧ (Q (σ5 ((4 + 3 * v1.toNatClampNeg) + 2) v2.toNatClampNeg) σ5))) ∧
  (v3 = (2 : Int32) → (wp_X2_length (fun r12 σ13 =>
  Q r12 σ13) (4 + 3 * v1.toNatClampNeg) v2 σ5)) ∧
  (v3 = (3 : Int32) → (wp_X9_isDegree (fun r15 σ16 =>
  (r15 = 0 → (Q (-1 : Int32) σ16)) ∧
  (¬ r15 = 0 → (wp_X2_isDone (fun r18 σ19 =>
  wp_X9_asNumber (fun r20 σ21 =>
  Q r20 σ21) r18 σ19) (4 + 3 * v1.toNatClampNeg) v2 v4 σ16))) v4 σ5)) ∧
  (¬ v3 = (0 : Int32) → ¬ v3 = (1 : Int32) → ¬ v3 = (2 : Int32) → ¬ v3 = (3 : Int32) → (Q (-1 : Int32) σ5))))) ∧
  (r4 = 0 → (Q (-1 : Int32) σ5))) v2 σ2))) v1 σ
abbrev rm_X9_act : Room := { frames := 3, cells := 0, slots := 0, locals := 64 }
def wp_X9_would (Q : Int32 → St → Prop) (v1 : Int32) (v2 : Int32) (v3 : Int32) (v4 : Int32) (σ : St) : Prop :=
  wp_X9_isSetting (fun r1 σ2 =>
  (¬ r1 = 0 → (wp_X3_brokenIf (fun r4 σ5 =>
  (¬ r4 = (-1 : Int32) → (Q ((1 : Int32) + r4) σ5)) ∧
  (r4 = (-1 : Int32) → (Q (0 : Int32) σ5))) v1 v2 v3 v4 σ2)) ∧
  (r1 = 0 → (Q (-1 : Int32) σ2))) v1 v2 v3 v4 σ
abbrev rm_X9_would : Room := { frames := 5, cells := 0, slots := 0, locals := 111 }
def wp_X9_isArm (Q : Int32 → St → Prop) (v0 : Int32) (σ : St) : Prop :=
  wp_X9_isBetween (fun r1 σ2 =>
  bz r1 ∧ Q r1 σ2) v0 (0 : Int32) (2 : Int32) σ
abbrev rm_X9_isArm : Room := { frames := 1, cells := 0, slots := 0, locals := 22 }
def wp_X9_arm (Q : Int32 → St → Prop) (v1 : Int32) (σ : St) : Prop :=
  wp_X9_isArm (fun r1 σ2 =>
  (¬ r1 = 0 → (kcL.getD (σ2 41 1).toNatClampNeg 999 = 4 ∧ (∀ x5 : Int32, x5 = (σ2 ((σ2 41 1).toNatClampNeg) 2) →
  (¬ x5 = 0 → (wp_X7_swapWithTold (fun σ8 =>
  wp_X7_isClear (fun r9 σ10 =>
  (¬ r9 = 0 → (kcL.getD (σ10 41 1).toNatClampNeg 999 = 4 ∧ (∀ σ13 : St, σ13 = up2 σ10 ((σ10 41 1).toNatClampNeg) 2 (0 : Int32) →
  Q x5 σ13))) ∧
  (r9 = 0 → (wp_X7_swapWithTold (fun σ15 =>
  Q (-5 : Int32) σ15) v1 σ10))) σ8) v1 σ2)) ∧
  (x5 = 0 → (Q (-4 : Int32) σ2))))) ∧
  (r1 = 0 → (Q (-1 : Int32) σ2))) v1 σ
abbrev rm_X9_arm : Room := { frames := 7, cells := 0, slots := 0, locals := 159 }
def wp_X9_knot (Q : Int32 → St → Prop) (v1 : Int32) (v2 : Int32) (σ : St) : Prop :=
  wp_X9_isDegree (fun r1 σ2 =>
  (r1 = 0 → (Q (-1 : Int32) σ2)) ∧
  (¬ r1 = 0 → (wp_X9_isBetween (fun r4 σ5 =>
  (r4 = 0 → (Q (-1 : Int32) σ5)) ∧
  (¬ r4 = 0 → (kcL.getD (σ5 41 1).toNatClampNeg 999 = 4 ∧ (wp_X4_latest (fun r8 σ9 =>
  (r8 < v1 → (kcL.getD (σ9 41 1).toNatClampNeg 999 = 4 ∧ (((σ9 ((σ9 41 1).toNatClampNeg) 2) < (6 : Int32) → (kcL.getD (σ9 41 1).toNatClampNeg 999 = 4 ∧ (wp_X4_add (fun σ15 =>
  kcL.getD (σ15 41 1).toNatClampNeg 999 = 4 ∧ (Q (σ15 ((σ15 41 1).toNatClampNeg) 2) σ15)) ((σ9 41 1).toNatClampNeg) v1 v2 σ9))) ∧
  (¬ (σ9 ((σ9 41 1).toNatClampNeg) 2) < (6 : Int32) → (Q (-2 : Int32) σ9))))) ∧
  (¬ r8 < v1 → (Q (-1 : Int32) σ9))) ((σ5 41 1).toNatClampNeg) σ5)))) v2 (0 : Int32) (1000 : Int32) σ2))) v1 σ
abbrev rm_X9_knot : Room := { frames := 2, cells := 0, slots := 0, locals := 42 }
def wp_X9_forget (Q : Int32 → St → Prop) (σ : St) : Prop :=
  kcL.getD (σ 41 1).toNatClampNeg 999 = 4 ∧ (∀ x2 : Int32, x2 = (σ ((σ 41 1).toNatClampNeg) 2) →
  kcL.getD (σ 41 1).toNatClampNeg 999 = 4 ∧ (∀ σ4 : St, σ4 = up2 σ ((σ 41 1).toNatClampNeg) 2 (0 : Int32) →
  Q x2 σ4))
abbrev rm_X9_forget : Room := { frames := 0, cells := 0, slots := 0, locals := 0 }
def wB_X9_greatestDivisor_7 (Q : Int32 → St → Prop) (LL : St → Int32 → Int32 → Int32 → Prop) (σ : St) (v2 : Int32) (v3 : Int32) (v4 : Int32) : Prop :=
  ((64 : Int32) ≤ v4 → (Q (if (1 : Int32) < v2 then v2 else (1 : Int32)) σ)) ∧
  (¬ (64 : Int32) ≤ v4 → ((v3 = 0 → (Q (if (1 : Int32) < v2 then v2 else (1 : Int32)) σ)) ∧
  (¬ v3 = 0 → ((¬ v3 = 0) ∧ (∀ x4 : Int32, x4 = (jrem v2 v3) →
  ∀ x5 : Int32, x5 = v4 + (1 : Int32) →
  LL σ v3 x4 x5)))))
def wl_X9_greatestDivisor_7 (Q : Int32 → St → Prop) : Nat → St → Int32 → Int32 → Int32 → Prop
  | 0, _, _, _, _ => False
  | n + 1, σ, v2, v3, v4 => wB_X9_greatestDivisor_7 Q (wl_X9_greatestDivisor_7 Q n) σ v2 v3 v4
def wp_X9_greatestDivisor (Q : Int32 → St → Prop) (v0 : Int32) (v1 : Int32) (σ : St) : Prop :=
  ∃ n, wl_X9_greatestDivisor_7 Q n σ v0 v1 (0 : Int32)
abbrev rm_X9_greatestDivisor : Room := { frames := 1, cells := 0, slots := 0, locals := 21 }
def wp_X9_place (Q : Int32 → St → Prop) (v1 : Int32) (v2 : Int32) (v3 : Int32) (σ : St) : Prop :=
  wp_X9_isArm (fun r1 σ2 =>
  (r1 = 0 → (Q (-1 : Int32) σ2)) ∧
  (¬ r1 = 0 → (wp_X9_isDegree (fun r4 σ5 =>
  (r4 = 0 → (Q (-1 : Int32) σ5)) ∧
  (¬ r4 = 0 → (wp_X9_isBetween (fun r7 σ8 =>
  (¬ r7 = 0 → (vp_in v1 3 ∧ (kcL.getD (σ8 42 v1.toNatClampNeg).toNatClampNeg 999 = 4 ∧ (wp_X4_above (fun r12 σ13 =>
  vp_in v1 3 ∧ (kcL.getD (σ13 42 v1.toNatClampNeg).toNatClampNeg 999 = 4 ∧ (wp_X4_below (fun r16 σ17 =>
  wp_X9_greatestDivisor (fun r18 σ19 =>
  (¬ v3 = 0 → ((¬ r18 = 0) ∧ (Q (r16 / r18) σ19))) ∧
  (v3 = 0 → ((¬ r18 = 0) ∧ (Q (r12 / r18) σ19)))) r12 r16 σ17) ((σ13 42 v1.toNatClampNeg).toNatClampNeg) v2 σ13))) ((σ8 42 v1.toNatClampNeg).toNatClampNeg) v2 σ8)))) ∧
  (r7 = 0 → (Q (-1 : Int32) σ8))) v3 (0 : Int32) (1 : Int32) σ5))) v2 σ2))) v1 σ
abbrev rm_X9_place : Room := { frames := 4, cells := 0, slots := 0, locals := 90 }
def wp_X9_nearest (Q : Int32 → St → Prop) (v1 : Int32) (v2 : Int32) (σ : St) : Prop :=
  wp_X9_isArm (fun r1 σ2 =>
  (r1 = 0 → (Q (-1 : Int32) σ2)) ∧
  (¬ r1 = 0 → (wp_X9_isArm (fun r4 σ5 =>
  (r4 = 0 → (Q (-1 : Int32) σ5)) ∧
  (¬ r4 = 0 → ((v1 < v2 → (vp_in v1 3 ∧ (kcL.getD (σ5 42 v1.toNatClampNeg).toNatClampNeg 999 = 4 ∧ (vp_in v2 3 ∧ (kcL.getD (σ5 42 v2.toNatClampNeg).toNatClampNeg 999 = 4 ∧ (wp_X7_nearestDegree (fun r12 σ13 =>
  Q r12 σ13) ((σ5 42 v1.toNatClampNeg).toNatClampNeg) ((σ5 42 v2.toNatClampNeg).toNatClampNeg) σ5)))))) ∧
  (¬ v1 < v2 → (Q (-1 : Int32) σ5))))) v2 σ2))) v1 σ
abbrev rm_X9_nearest : Room := { frames := 7, cells := 0, slots := 0, locals := 167 }
def wp_X9_stop (Q : Int32 → St → Prop) (v1 : Int32) (σ : St) : Prop :=
  wp_X9_isSection (fun r1 σ2 =>
  (¬ r1 = 0 → (wp_X6_find (fun r4 σ5 =>
  (¬ r4 = (-1 : Int32) → (wp_X6_leave (fun σ8 =>
  Q (σ8 55 2) σ8) r4 σ5)) ∧
  (r4 = (-1 : Int32) → (Q (-3 : Int32) σ5))) v1 σ2)) ∧
  (r1 = 0 → (Q (-1 : Int32) σ2))) v1 σ
abbrev rm_X9_stop : Room := { frames := 2, cells := 0, slots := 0, locals := 42 }
def wp_X9_start (Q : Int32 → St → Prop) (v1 : Int32) (σ : St) : Prop :=
  wp_X9_isSection (fun r1 σ2 =>
  (¬ r1 = 0 → (wp_X6_find (fun r4 σ5 =>
  (r4 = (-1 : Int32) → (wp_X6_join (fun σ8 =>
  Q (σ8 55 2) σ8) v1 σ5)) ∧
  (¬ r4 = (-1 : Int32) → (Q (-3 : Int32) σ5))) v1 σ2)) ∧
  (r1 = 0 → (Q (-1 : Int32) σ2))) v1 σ
abbrev rm_X9_start : Room := { frames := 2, cells := 0, slots := 0, locals := 42 }
def wp_X9_isJob (Q : Int32 → St → Prop) (v0 : Int32) (σ : St) : Prop :=
  wp_X9_isBetween (fun r1 σ2 =>
  bz r1 ∧ Q r1 σ2) v0 (0 : Int32) (3 : Int32) σ
abbrev rm_X9_isJob : Room := { frames := 1, cells := 0, slots := 0, locals := 22 }
def wp_X9_job (Q : Int32 → St → Prop) (v1 : Int32) (v2 : Int32) (σ : St) : Prop :=
  wp_X9_isSection (fun r1 σ2 =>
  (r1 = 0 → (Q (-1 : Int32) σ2)) ∧
  (¬ r1 = 0 → (wp_X9_isJob (fun r4 σ5 =>
  (¬ r4 = 0 → (vp_in v1 6 ∧ (∀ x8 : Int32, x8 = (σ5 78 v1.toNatClampNeg) →
  vp_in v1 6 ∧ (∀ σ10 : St, σ10 = up2 σ5 78 v1.toNatClampNeg v2 →
  Q x8 σ10)))) ∧
  (r4 = 0 → (Q (-1 : Int32) σ5))) v2 σ2))) v1 σ
abbrev rm_X9_job : Room := { frames := 2, cells := 0, slots := 0, locals := 42 }
def wp_X9_isColour (Q : Int32 → St → Prop) (v0 : Int32) (σ : St) : Prop :=
  wp_X9_isBetween (fun r1 σ2 =>
  bz r1 ∧ Q r1 σ2) v0 (0 : Int32) (3 : Int32) σ
abbrev rm_X9_isColour : Room := { frames := 1, cells := 0, slots := 0, locals := 22 }
def wp_X9_aim (Q : Int32 → St → Prop) (v1 : Int32) (v2 : Int32) (v3 : Int32) (σ : St) : Prop :=
  wp_X9_isJob (fun r1 σ2 =>
  (r1 = 0 → (Q (-1 : Int32) σ2)) ∧
  (¬ r1 = 0 → (wp_X9_isBetween (fun r4 σ5 =>
  (r4 = 0 → (Q (-1 : Int32) σ5)) ∧
  (¬ r4 = 0 → (wp_X9_isColour (fun r7 σ8 =>
  (¬ r7 = 0 → (vp_in v1 4 ∧ (∀ σ11 : St, σ11 = up2 σ8 79 v1.toNatClampNeg v2 →
  vp_in v1 4 ∧ (∀ σ13 : St, σ13 = up2 σ11 80 v1.toNatClampNeg v3 →
  Q (1 : Int32) σ13)))) ∧
  (r7 = 0 → (Q (-1 : Int32) σ8))) v3 σ5))) v2 (100 : Int32) (900 : Int32) σ2))) v1 σ
abbrev rm_X9_aim : Room := { frames := 2, cells := 0, slots := 0, locals := 42 }
def wp_X9_glass (Q : Int32 → St → Prop) (v1 : Int32) (v2 : Int32) (σ : St) : Prop :=
  wp_X9_isColour (fun r1 σ2 =>
  (r1 = 0 → (Q (-1 : Int32) σ2)) ∧
  (¬ r1 = 0 → (wp_X9_isBetween (fun r4 σ5 =>
  (¬ r4 = 0 → ((¬ v1 = (σ5 0 9) → (∀ σ8 : St, σ8 = up2 σ5 0 9 v1 →
  ∀ σ9 : St, σ9 = up2 σ8 0 10 v2 →
  Q (1 : Int32) σ9)) ∧
  (v1 = (σ5 0 9) → (Q (-3 : Int32) σ5)))) ∧
  (r4 = 0 → (Q (-1 : Int32) σ5))) v2 (0 : Int32) (50 : Int32) σ2))) v1 σ
abbrev rm_X9_glass : Room := { frames := 2, cells := 0, slots := 0, locals := 42 }
def wp_X9_isMould (Q : Int32 → St → Prop) (v0 : Int32) (σ : St) : Prop :=
  wp_X9_isBetween (fun r1 σ2 =>
  bz r1 ∧ Q r1 σ2) v0 (0 : Int32) (29 : Int32) σ
abbrev rm_X9_isMould : Room := { frames := 1, cells := 0, slots := 0, locals := 22 }
def wp_X9_mould (Q : Int32 → St → Prop) (v1 : Int32) (v2 : Int32) (σ : St) : Prop :=
  wp_X9_isSection (fun r1 σ2 =>
  (r1 = 0 → (Q (-1 : Int32) σ2)) ∧
  (¬ r1 = 0 → (wp_X9_isMould (fun r4 σ5 =>
  (¬ r4 = 0 → (wp_X5_sectionOf (fun r7 σ8 =>
  (r7 = (-1 : Int32) → (vp_in v1 6 ∧ (∀ x11 : Int32, x11 = (σ8 63 v1.toNatClampNeg) →
  vp_in v1 6 ∧ (∀ σ13 : St, σ13 = up2 σ8 63 v1.toNatClampNeg v2 →
  Q x11 σ13)))) ∧
  (¬ r7 = (-1 : Int32) → (Q (-3 : Int32) σ8))) v2 σ5)) ∧
  (r4 = 0 → (Q (-1 : Int32) σ5))) v2 σ2))) v1 σ
abbrev rm_X9_mould : Room := { frames := 2, cells := 0, slots := 0, locals := 42 }
def wp_X9_swab (Q : Int32 → St → Prop) (v1 : Int32) (σ : St) : Prop :=
  wp_X9_isMould (fun r1 σ2 =>
  (¬ r1 = 0 → (vp_in v1 30 ∧ (∀ x5 : Int32, x5 = (σ2 59 v1.toNatClampNeg) →
  vp_in v1 30 ∧ (∀ σ7 : St, σ7 = up2 σ2 59 v1.toNatClampNeg (0 : Int32) →
  Q x5 σ7)))) ∧
  (r1 = 0 → (Q (-1 : Int32) σ2))) v1 σ
abbrev rm_X9_swab : Room := { frames := 2, cells := 0, slots := 0, locals := 42 }
def wp_X9_repair (Q : Int32 → St → Prop) (v1 : Int32) (σ : St) : Prop :=
  wp_X9_isMould (fun r1 σ2 =>
  (¬ r1 = 0 → (vp_in v1 30 ∧ (∀ x5 : Int32, x5 = (σ2 58 v1.toNatClampNeg) →
  wp_X5_makeNew (fun σ7 =>
  Q x5 σ7) v1 σ2))) ∧
  (r1 = 0 → (Q (-1 : Int32) σ2))) v1 σ
abbrev rm_X9_repair : Room := { frames := 2, cells := 0, slots := 0, locals := 42 }
def wb_X9_pull_27 (Q : Int32 → St → Prop) (v1 : Int32) (v2 : Int32) (z0 : Int32) (σ : St) : Prop :=
  vp_in v1 30 ∧ (∀ σ7 : St, σ7 = up2 σ 60 v1.toNatClampNeg (vp_nar .boolean v2) →
  wp_X9_asNumber (fun r8 σ9 =>
  Q r8 σ9) z0 σ7)
def wp_X9_pull (Q : Int32 → St → Prop) (v1 : Int32) (v2 : Int32) (σ : St) : Prop :=
  wp_X9_isMould (fun r1 σ2 =>
  (¬ r1 = 0 → (vp_in v1 30 ∧ (((σ2 60 v1.toNatClampNeg) = v2 → (wb_X9_pull_27 Q v1 v2 (0 : Int32) σ2)) ∧
  (¬ (σ2 60 v1.toNatClampNeg) = v2 → (wb_X9_pull_27 Q v1 v2 (1 : Int32) σ2))))) ∧
  (r1 = 0 → (Q (-1 : Int32) σ2))) v1 σ
abbrev rm_X9_pull : Room := { frames := 2, cells := 0, slots := 0, locals := 42 }
def wb_X9_rule_29 (Q : Int32 → St → Prop) (v1 : Int32) (v2 : Int32) (σ : St) : Prop :=
  (¬ v1 = (1 : Int32) → (Q (-1000 : Int32) σ)) ∧
  (v1 = (1 : Int32) → (wp_X9_isBetween (fun r3 σ4 =>
  (r3 = 0 → (Q (-1000 : Int32) σ4)) ∧
  (¬ r3 = 0 → (∀ x6 : Int32, x6 = (σ4 0 13) →
  ∀ σ7 : St, σ7 = up2 σ4 0 13 v2 →
  Q x6 σ7))) v2 (1 : Int32) (1000 : Int32) σ))
def wp_X9_rule (Q : Int32 → St → Prop) (v1 : Int32) (v2 : Int32) (σ : St) : Prop :=
  (¬ v1 = 0 → (wb_X9_rule_29 Q v1 v2 σ)) ∧
  (v1 = 0 → (wp_X9_isBetween (fun r8 σ9 =>
  (r8 = 0 → (wb_X9_rule_29 Q v1 v2 σ9)) ∧
  (¬ r8 = 0 → (∀ x11 : Int32, x11 = (σ9 0 12) →
  ∀ σ12 : St, σ12 = up2 σ9 0 12 v2 →
  Q x11 σ12))) v2 (-200 : Int32) (200 : Int32) σ))
abbrev rm_X9_rule : Room := { frames := 1, cells := 0, slots := 0, locals := 22 }
def wp_X9_book (Q : Int32 → St → Prop) (v1 : Int32) (v2 : Int32) (σ : St) : Prop :=
  wp_X9_isMould (fun r1 σ2 =>
  (¬ r1 = 0 → ((v2 = (0 : Int32) → (vp_in v1 30 ∧ (Q (σ2 58 v1.toNatClampNeg) σ2))) ∧
  (v2 = (1 : Int32) → (vp_in v1 30 ∧ (Q (σ2 59 v1.toNatClampNeg) σ2))) ∧
  (v2 = (2 : Int32) → (vp_in v1 30 ∧ (wp_X9_asNumber (fun r9 σ10 =>
  Q r9 σ10) (σ2 60 v1.toNatClampNeg) σ2))) ∧
  (v2 = (3 : Int32) → (vp_in v1 30 ∧ (Q (σ2 61 v1.toNatClampNeg) σ2))) ∧
  (v2 = (4 : Int32) → (vp_in v1 30 ∧ (Q (σ2 62 v1.toNatClampNeg) σ2))) ∧
  (v2 = (5 : Int32) → (wp_X5_sectionOf (fun r16 σ17 =>
  Q r16 σ17) v1 σ2)) ∧
  (¬ v2 = (0 : Int32) → ¬ v2 = (1 : Int32) → ¬ v2 = (2 : Int32) → ¬ v2 = (3 : Int32) → ¬ v2 = (4 : Int32) → ¬ v2 = (5 : Int32) → (Q (-1 : Int32) σ2)))) ∧
  (r1 = 0 → (Q (-1 : Int32) σ2))) v1 σ
abbrev rm_X9_book : Room := { frames := 2, cells := 0, slots := 0, locals := 42 }
def wp_X9_verdict (Q : Int32 → St → Prop) (o1 : Nat) (σ : St) : Prop :=
  ((σ o1 6) = 0 → (vp_in (σ o1 2) 30 ∧ (((σ 60 (σ o1 2).toNatClampNeg) = 0 → (((if 0 ≤ ((σ o1 5) - (σ o1 4)) then ((σ o1 5) - (σ o1 4)) else 0 - ((σ o1 5) - (σ o1 4))) ≤ (20 : Int32) → (Q (0 : Int32) σ)) ∧
  (¬ (if 0 ≤ ((σ o1 5) - (σ o1 4)) then ((σ o1 5) - (σ o1 4)) else 0 - ((σ o1 5) - (σ o1 4))) ≤ (20 : Int32) → (Q (6 : Int32) σ)))) ∧
  (¬ (σ 60 (σ o1 2).toNatClampNeg) = 0 → (Q (5 : Int32) σ))))) ∧
  (¬ (σ o1 6) = 0 → (Q (σ o1 6) σ))
abbrev rm_X9_verdict : Room := { frames := 1, cells := 0, slots := 0, locals := 21 }
def wb_X9_takeOffEldest_41 (Q : St → Prop) (o1 : Nat) (z0 : Int32) (z1 : Int32) (σ : St) : Prop :=
  wp_X5_enter (fun σ11 =>
  (¬ (jrem (σ11 o1 0) (4 : Int32)) = 0 → (Q σ11)) ∧
  ((jrem (σ11 o1 0) (4 : Int32)) = 0 → (∀ x13 : Int32, x13 = ((σ11 0 11) + (((σ11 o1 4) - (σ11 o1 5)) / (2 : Int32))) →
  ∀ σ14 : St, σ14 = up2 σ11 0 11 (if (100 : Int32) < (if x13 < (900 : Int32) then x13 else (900 : Int32)) then (if x13 < (900 : Int32) then x13 else (900 : Int32)) else (100 : Int32)) →
  Q σ14))) z1 z0 σ
def wp_X9_takeOffEldest (Q : St → Prop) (σ : St) : Prop :=
  wp_X0_takeEldest (fun r1 σ2 => kcL.getD r1 999 = 1 ∧ (wp_X9_verdict (fun r4 σ5 =>
  vp_in r4 7 ∧ (vp_in r4 7 ∧ (∀ σ8 : St, σ8 = up2 σ5 81 r4.toNatClampNeg ((σ5 81 r4.toNatClampNeg) + (1 : Int32)) →
  (¬ r4 = 0 → (wb_X9_takeOffEldest_41 Q r1 (0 : Int32) (σ8 r1 2) σ8)) ∧
  (r4 = 0 → (wb_X9_takeOffEldest_41 Q r1 (1 : Int32) (σ8 r1 2) σ8))))) r1 σ2)) σ
abbrev rm_X9_takeOffEldest : Room := { frames := 2, cells := 0, slots := 0, locals := 42 }
def wp_X9_faultOfCut (Q : Int32 → St → Prop) (v1 : Int32) (v2 : Int32) (σ : St) : Prop :=
  ((σ 0 10) ≤ 0 → (vp_in v1 4 ∧ (((σ 80 v1.toNatClampNeg) = (σ 0 9) → (vp_in v2 30 ∧ (((σ 59 v2.toNatClampNeg) ≤ (8 : Int32) → (vp_in v2 30 ∧ (((σ 58 v2.toNatClampNeg) ≤ (σ 0 13) → (Q (0 : Int32) σ)) ∧
  (¬ (σ 58 v2.toNatClampNeg) ≤ (σ 0 13) → (Q (4 : Int32) σ))))) ∧
  (¬ (σ 59 v2.toNatClampNeg) ≤ (8 : Int32) → (Q (3 : Int32) σ))))) ∧
  (¬ (σ 80 v1.toNatClampNeg) = (σ 0 9) → (Q (2 : Int32) σ))))) ∧
  (¬ (σ 0 10) ≤ 0 → (Q (1 : Int32) σ))
abbrev rm_X9_faultOfCut : Room := { frames := 0, cells := 0, slots := 0, locals := 0 }
def wp_X9_makeBottle (Q : St → Prop) (σ : St) : Prop :=
  wp_X6_next (fun r1 σ2 =>
  wp_X6_pass (fun σ4 =>
  vp_in r1 6 ∧ (∀ x6 : Int32, x6 = (σ4 63 r1.toNatClampNeg) →
  vp_in r1 6 ∧ (∀ x8 : Int32, x8 = (σ4 78 r1.toNatClampNeg) →
  vp_in x6 30 ∧ (vp_in x6 30 ∧ (∀ σ11 : St, σ11 = up2 σ4 58 x6.toNatClampNeg ((σ4 58 x6.toNatClampNeg) + (1 : Int32)) →
  vp_in x6 30 ∧ (vp_in x6 30 ∧ (∀ σ14 : St, σ14 = up2 σ11 59 x6.toNatClampNeg ((σ11 59 x6.toNatClampNeg) + (1 : Int32)) →
  wp_X0_putLast (fun r15 σ16 => kcL.getD r15 999 = 1 ∧ (∀ σ18 : St, σ18 = up2 σ16 r15 0 (σ16 0 14) →
  ∀ σ19 : St, σ19 = up2 σ18 r15 1 r1 →
  ∀ σ20 : St, σ20 = up2 σ19 r15 2 x6 →
  ∀ σ21 : St, σ21 = up2 σ20 r15 3 x8 →
  vp_in x8 4 ∧ (∀ σ23 : St, σ23 = up2 σ21 r15 4 (σ21 79 x8.toNatClampNeg) →
  ∀ σ24 : St, σ24 = up2 σ23 r15 5 ((((σ23 0 11) + (σ23 0 12)) + (σ23 r15 4)) - (500 : Int32)) →
  wp_X9_faultOfCut (fun r25 σ26 =>
  ∀ σ27 : St, σ27 = up2 σ26 r15 6 r25 →
  ∀ σ28 : St, σ28 = up2 σ27 0 14 ((σ27 0 14) + (1 : Int32)) →
  ((σ28 0 10) ≤ 0 → (Q σ28)) ∧
  (¬ (σ28 0 10) ≤ 0 → (∀ σ30 : St, σ30 = up2 σ28 0 10 ((σ28 0 10) - (1 : Int32)) →
  Q σ30))) x8 x6 σ24))) σ14))))))) σ2) σ
abbrev rm_X9_makeBottle : Room := { frames := 2, cells := 0, slots := 0, locals := 42 }
def wB_X9_cut_29 (Q : Int32 → St → Prop) (LL : St → Int32 → Int32 → Prop) (v1 : Int32) (σ : St) (v2 : Int32) (v3 : Int32) : Prop :=
  (v1 ≤ v3 → (Q v2 σ)) ∧
  (¬ v1 ≤ v3 → ((¬ (σ 64 2) = (12 : Int32) → (wp_X9_makeBottle (fun σ8 =>
  ∀ x9 : Int32, x9 = v3 + (1 : Int32) →
  LL σ8 v2 x9) σ)) ∧
  ((σ 64 2) = (12 : Int32) → (wp_X9_takeOffEldest (fun σ11 =>
  ∀ x12 : Int32, x12 = v2 + (1 : Int32) →
  wp_X9_makeBottle (fun σ14 =>
  ∀ x15 : Int32, x15 = v3 + (1 : Int32) →
  LL σ14 x12 x15) σ11) σ))))
def wl_X9_cut_29 (Q : Int32 → St → Prop) (v1 : Int32) : Nat → St → Int32 → Int32 → Prop
  | 0, _, _, _ => False
  | n + 1, σ, v2, v3 => wB_X9_cut_29 Q (wl_X9_cut_29 Q v1 n) v1 σ v2 v3
def wp_X9_cut (Q : Int32 → St → Prop) (v1 : Int32) (σ : St) : Prop :=
  wp_X9_isBetween (fun r1 σ2 =>
  (¬ r1 = 0 → ((¬ (σ2 55 2) = 0 → (∃ n, wl_X9_cut_29 Q v1 n σ2 (0 : Int32) (0 : Int32))) ∧
  ((σ2 55 2) = 0 → (Q (-4 : Int32) σ2)))) ∧
  (r1 = 0 → (Q (-1 : Int32) σ2))) v1 (1 : Int32) (100 : Int32) σ
abbrev rm_X9_cut : Room := { frames := 3, cells := 0, slots := 0, locals := 66 }
def wB_X9_drain_10 (Q : Int32 → St → Prop) (LL : St → Int32 → Prop) (v1 : Int32) (σ : St) (v2 : Int32) : Prop :=
  (v1 ≤ v2 → (Q v1 σ)) ∧
  (¬ v1 ≤ v2 → (wp_X9_takeOffEldest (fun σ4 =>
  ∀ x5 : Int32, x5 = v2 + (1 : Int32) →
  LL σ4 x5) σ))
def wl_X9_drain_10 (Q : Int32 → St → Prop) (v1 : Int32) : Nat → St → Int32 → Prop
  | 0, _, _ => False
  | n + 1, σ, v2 => wB_X9_drain_10 Q (wl_X9_drain_10 Q v1 n) v1 σ v2
def wp_X9_drain (Q : Int32 → St → Prop) (σ : St) : Prop :=
  ∀ x1 : Int32, x1 = (σ 64 2) →
  ∃ n, wl_X9_drain_10 Q x1 n σ (0 : Int32)
abbrev rm_X9_drain : Room := { frames := 3, cells := 0, slots := 0, locals := 65 }
def wp_X9_bottle (Q : Int32 → St → Prop) (v1 : Int32) (v2 : Int32) (σ : St) : Prop :=
  (v1 < 0 → (Q (-1 : Int32) σ)) ∧
  (¬ v1 < 0 → ((v1 < (σ 64 2) → (wp_X0_fromEldest (fun r3 σ4 => kcL.getD r3 999 = 1 ∧ ((v2 = (0 : Int32) → (Q (σ4 r3 0) σ4)) ∧
  (v2 = (1 : Int32) → (Q (σ4 r3 1) σ4)) ∧
  (v2 = (2 : Int32) → (Q (σ4 r3 2) σ4)) ∧
  (v2 = (3 : Int32) → (Q (σ4 r3 3) σ4)) ∧
  (v2 = (4 : Int32) → (Q (σ4 r3 5) σ4)) ∧
  (v2 = (5 : Int32) → (wp_X9_verdict (fun r11 σ12 =>
  Q r11 σ12) r3 σ4)) ∧
  (¬ v2 = (0 : Int32) → ¬ v2 = (1 : Int32) → ¬ v2 = (2 : Int32) → ¬ v2 = (3 : Int32) → ¬ v2 = (4 : Int32) → ¬ v2 = (5 : Int32) → (Q (-1 : Int32) σ4)))) v1 σ)) ∧
  (¬ v1 < (σ 64 2) → (Q (-1 : Int32) σ))))
abbrev rm_X9_bottle : Room := { frames := 2, cells := 0, slots := 0, locals := 42 }
def wp_X9_many (Q : Int32 → St → Prop) (v1 : Int32) (σ : St) : Prop :=
  wp_X9_isBetween (fun r1 σ2 =>
  (r1 = 0 → ((v1 = (0 : Int32) → (Q (σ2 0 14) σ2)) ∧
  (v1 = (1 : Int32) → (Q (σ2 64 2) σ2)) ∧
  (v1 = (9 : Int32) → (Q (σ2 55 2) σ2)) ∧
  (v1 = (10 : Int32) → (Q (σ2 0 11) σ2)) ∧
  (v1 = (11 : Int32) → (wp_X6_next (fun r8 σ9 =>
  Q r8 σ9) σ2)) ∧
  (v1 = (12 : Int32) → (Q (σ2 0 10) σ2)) ∧
  (v1 = (13 : Int32) → (Q (σ2 1 3) σ2)) ∧
  (v1 = (14 : Int32) → (Q (σ2 1 4) σ2)) ∧
  (v1 = (15 : Int32) → (Q (σ2 0 9) σ2)) ∧
  (¬ v1 = (0 : Int32) → ¬ v1 = (1 : Int32) → ¬ v1 = (9 : Int32) → ¬ v1 = (10 : Int32) → ¬ v1 = (11 : Int32) → ¬ v1 = (12 : Int32) → ¬ v1 = (13 : Int32) → ¬ v1 = (14 : Int32) → ¬ v1 = (15 : Int32) → (Q (-1 : Int32) σ2)))) ∧
  (¬ r1 = 0 → (vp_in (v1 - (2 : Int32)) 7 ∧ (Q (σ2 81 (v1 - (2 : Int32)).toNatClampNeg) σ2)))) v1 (2 : Int32) (8 : Int32) σ
abbrev rm_X9_many : Room := { frames := 1, cells := 0, slots := 0, locals := 22 }
def wp_X10_in (Q : Int32 → St → Prop) (v0 : Int32) (v1 : Int32) (v2 : Int32) (σ : St) : Prop :=
  (v0 < v1 → (Q (0 : Int32) σ)) ∧
  (¬ v0 < v1 → ((v2 < v0 → (Q (0 : Int32) σ)) ∧
  (¬ v2 < v0 → (Q (1 : Int32) σ))))
abbrev rm_X10_in : Room := { frames := 0, cells := 0, slots := 0, locals := 0 }
def wp_X10_isSection (Q : Int32 → St → Prop) (v0 : Int32) (σ : St) : Prop :=
  wp_X10_in (fun r1 σ2 =>
  bz r1 ∧ Q r1 σ2) v0 (0 : Int32) (5 : Int32) σ
abbrev rm_X10_isSection : Room := { frames := 1, cells := 0, slots := 0, locals := 22 }
def wp_X10_isAct (Q : Int32 → St → Prop) (v0 : Int32) (σ : St) : Prop :=
  wp_X10_in (fun r1 σ2 =>
  bz r1 ∧ Q r1 σ2) v0 (0 : Int32) (7 : Int32) σ
abbrev rm_X10_isAct : Room := { frames := 1, cells := 0, slots := 0, locals := 22 }
def wp_X10_isDegree (Q : Int32 → St → Prop) (v0 : Int32) (σ : St) : Prop :=
  wp_X10_in (fun r1 σ2 =>
  bz r1 ∧ Q r1 σ2) v0 (0 : Int32) (359 : Int32) σ
abbrev rm_X10_isDegree : Room := { frames := 1, cells := 0, slots := 0, locals := 22 }
def wp_X10_isArm (Q : Int32 → St → Prop) (v0 : Int32) (σ : St) : Prop :=
  wp_X10_in (fun r1 σ2 =>
  bz r1 ∧ Q r1 σ2) v0 (0 : Int32) (2 : Int32) σ
abbrev rm_X10_isArm : Room := { frames := 1, cells := 0, slots := 0, locals := 22 }
def wp_X10_isMould (Q : Int32 → St → Prop) (v0 : Int32) (σ : St) : Prop :=
  wp_X10_in (fun r1 σ2 =>
  bz r1 ∧ Q r1 σ2) v0 (0 : Int32) (29 : Int32) σ
abbrev rm_X10_isMould : Room := { frames := 1, cells := 0, slots := 0, locals := 22 }
def wp_X10_isJob (Q : Int32 → St → Prop) (v0 : Int32) (σ : St) : Prop :=
  wp_X10_in (fun r1 σ2 =>
  bz r1 ∧ Q r1 σ2) v0 (0 : Int32) (3 : Int32) σ
abbrev rm_X10_isJob : Room := { frames := 1, cells := 0, slots := 0, locals := 22 }
def wp_X10_lengthOf (Q : Int32 → St → Prop) (v1 : Int32) (v2 : Int32) (σ : St) : Prop :=
  vp_in (((8 : Int32) * v1) + v2) 48 ∧ (vp_in (((8 : Int32) * v1) + v2) 48 ∧ (Q (jrem (((σ 2 (((8 : Int32) * v1) + v2).toNatClampNeg) - (σ 1 (((8 : Int32) * v1) + v2).toNatClampNeg)) + (360 : Int32)) (360 : Int32)) σ))
abbrev rm_X10_lengthOf : Room := { frames := 0, cells := 0, slots := 0, locals := 0 }
def wp_X10_isDone (Q : Int32 → St → Prop) (v1 : Int32) (v2 : Int32) (v3 : Int32) (σ : St) : Prop :=
  vp_in (((8 : Int32) * v1) + v2) 48 ∧ (wp_X10_lengthOf (fun r2 σ3 =>
  (r2 ≤ (jrem ((v3 - (σ 1 (((8 : Int32) * v1) + v2).toNatClampNeg)) + (360 : Int32)) (360 : Int32)) → (Q (0 : Int32) σ3)) ∧
  (¬ r2 ≤ (jrem ((v3 - (σ 1 (((8 : Int32) * v1) + v2).toNatClampNeg)) + (360 : Int32)) (360 : Int32)) → (Q (1 : Int32) σ3))) v1 v2 σ)
abbrev rm_X10_isDone : Room := { frames := 1, cells := 0, slots := 0, locals := 22 }
def wB_X10_keeps_119 (Q : Int32 → St → Prop) (LL : St → Int32 → Int32 → Prop) (v1 : Int32) (v2 : Int32) (v4 : Int32) (v5 : Int32) (σ : St) (v7 : Int32) (v8 : Int32) : Prop :=
  ((360 : Int32) ≤ v8 → (bz v7 ∧ Q v7 σ)) ∧
  (¬ (360 : Int32) ≤ v8 → (wp_X10_isDone (fun r12 σ13 =>
  wp_X10_isDone (fun r14 σ15 =>
  (v7 = 0 → (∀ x17 : Int32, x17 = v8 + (1 : Int32) →
  LL σ15 (0 : Int32) x17)) ∧
  (¬ v7 = 0 → (vp_in v2 17 ∧ ((¬ (σ15 3 v2.toNatClampNeg) = (1 : Int32) → ((r12 = 0 → (∀ x21 : Int32, x21 = v8 + (1 : Int32) →
  LL σ15 (1 : Int32) x21)) ∧
  (¬ r12 = 0 → ((r14 = 0 → (∀ x23 : Int32, x23 = v8 + (1 : Int32) →
  LL σ15 (0 : Int32) x23)) ∧
  (¬ r14 = 0 → (∀ x24 : Int32, x24 = v8 + (1 : Int32) →
  LL σ15 (1 : Int32) x24)))))) ∧
  ((σ15 3 v2.toNatClampNeg) = (1 : Int32) → ((r12 = 0 → (∀ x26 : Int32, x26 = v8 + (1 : Int32) →
  LL σ15 (1 : Int32) x26)) ∧
  (¬ r12 = 0 → ((r14 = 0 → (∀ x28 : Int32, x28 = v8 + (1 : Int32) →
  LL σ15 (1 : Int32) x28)) ∧
  (¬ r14 = 0 → (∀ x29 : Int32, x29 = v8 + (1 : Int32) →
  LL σ15 (0 : Int32) x29)))))))))) v1 v5 v8 σ13) v1 v4 v8 σ))
def wl_X10_keeps_119 (Q : Int32 → St → Prop) (v1 : Int32) (v2 : Int32) (v4 : Int32) (v5 : Int32) : Nat → St → Int32 → Int32 → Prop
  | 0, _, _, _ => False
  | n + 1, σ, v7, v8 => wB_X10_keeps_119 Q (wl_X10_keeps_119 Q v1 v2 v4 v5 n) v1 v2 v4 v5 σ v7 v8
def wp_X10_keeps (Q : Int32 → St → Prop) (v1 : Int32) (v2 : Int32) (v3 : Int32) (σ : St) : Prop :=
  vp_in v2 17 ∧ (∀ x2 : Int32, x2 = (σ 4 v2.toNatClampNeg) →
  vp_in v2 17 ∧ (∀ x4 : Int32, x4 = (σ 5 v2.toNatClampNeg) →
  vp_in v2 17 ∧ (∀ x6 : Int32, x6 = (σ 6 v2.toNatClampNeg) →
  vp_in v2 17 ∧ ((¬ (σ 3 v2.toNatClampNeg) = 0 → (vp_in v2 17 ∧ ((¬ (σ 3 v2.toNatClampNeg) = (2 : Int32) → (∃ n, wl_X10_keeps_119 Q v1 v2 x2 x4 n σ (1 : Int32) (0 : Int32))) ∧
  ((σ 3 v2.toNatClampNeg) = (2 : Int32) → (wp_X10_lengthOf (fun r30 σ31 =>
  (((500 : Int32) * r30) < (((3 : Int32) * v3) * x6) → (Q (0 : Int32) σ31)) ∧
  (¬ ((500 : Int32) * r30) < (((3 : Int32) * v3) * x6) → (Q (1 : Int32) σ31))) v1 x2 σ))))) ∧
  ((σ 3 v2.toNatClampNeg) = 0 → (vp_in (((8 : Int32) * v1) + x4) 48 ∧ (vp_in (((8 : Int32) * v1) + x2) 48 ∧ (((jrem (((σ 1 (((8 : Int32) * v1) + x4).toNatClampNeg) - (σ 2 (((8 : Int32) * v1) + x2).toNatClampNeg)) + (360 : Int32)) (360 : Int32)) < x6 → (Q (0 : Int32) σ)) ∧
  (¬ (jrem (((σ 1 (((8 : Int32) * v1) + x4).toNatClampNeg) - (σ 2 (((8 : Int32) * v1) + x2).toNatClampNeg)) + (360 : Int32)) (360 : Int32)) < x6 → (Q (1 : Int32) σ))))))))))
abbrev rm_X10_keeps : Room := { frames := 2, cells := 0, slots := 0, locals := 45 }
def wB_X10_brokenBy_2 (Q : Int32 → St → Prop) (LL : St → Int32 → Prop) (v1 : Int32) (σ : St) (v2 : Int32) : Prop :=
  ((σ 0 2) ≤ v2 → (Q (-1 : Int32) σ)) ∧
  (¬ (σ 0 2) ≤ v2 → (wp_X10_keeps (fun r2 σ3 =>
  (¬ r2 = 0 → (∀ x5 : Int32, x5 = v2 + (1 : Int32) →
  LL σ3 x5)) ∧
  (r2 = 0 → (Q v2 σ3))) v1 v2 (σ 0 7) σ))
def wl_X10_brokenBy_2 (Q : Int32 → St → Prop) (v1 : Int32) : Nat → St → Int32 → Prop
  | 0, _, _ => False
  | n + 1, σ, v2 => wB_X10_brokenBy_2 Q (wl_X10_brokenBy_2 Q v1 n) v1 σ v2
def wp_X10_brokenBy (Q : Int32 → St → Prop) (v1 : Int32) (σ : St) : Prop :=
  ∃ n, wl_X10_brokenBy_2 Q v1 n σ (0 : Int32)
abbrev rm_X10_brokenBy : Room := { frames := 3, cells := 0, slots := 0, locals := 75 }
def wB_X10_brokenAt_12 (Q : Int32 → St → Prop) (L2 : St → Int32 → Prop) (LL : St → Int32 → Prop) (v1 : Int32) (v2 : Int32) (σ : St) (v3 : Int32) : Prop :=
  ((6 : Int32) ≤ v3 → (∀ x3 : Int32, x3 = v2 + (1 : Int32) →
  L2 σ x3)) ∧
  (¬ (6 : Int32) ≤ v3 → (wp_X10_keeps (fun r4 σ5 =>
  (¬ r4 = 0 → (∀ x7 : Int32, x7 = v3 + (1 : Int32) →
  LL σ5 x7)) ∧
  (r4 = 0 → (Q v2 σ5))) v3 v2 v1 σ))
def wl_X10_brokenAt_12 (Q : Int32 → St → Prop) (L2 : St → Int32 → Prop) (v1 : Int32) (v2 : Int32) : Nat → St → Int32 → Prop
  | 0, _, _ => False
  | n + 1, σ, v3 => wB_X10_brokenAt_12 Q L2 (wl_X10_brokenAt_12 Q L2 v1 v2 n) v1 v2 σ v3
def wB_X10_brokenAt_2 (Q : Int32 → St → Prop) (LL : St → Int32 → Prop) (v1 : Int32) (σ : St) (v2 : Int32) : Prop :=
  ((σ 0 2) ≤ v2 → (Q (-1 : Int32) σ)) ∧
  (¬ (σ 0 2) ≤ v2 → (∃ n, wl_X10_brokenAt_12 Q LL v1 v2 n σ (0 : Int32)))
def wl_X10_brokenAt_2 (Q : Int32 → St → Prop) (v1 : Int32) : Nat → St → Int32 → Prop
  | 0, _, _ => False
  | n + 1, σ, v2 => wB_X10_brokenAt_2 Q (wl_X10_brokenAt_2 Q v1 n) v1 σ v2
def wp_X10_brokenAt (Q : Int32 → St → Prop) (v1 : Int32) (σ : St) : Prop :=
  ∃ n, wl_X10_brokenAt_2 Q v1 n σ (0 : Int32)
abbrev rm_X10_brokenAt : Room := { frames := 3, cells := 0, slots := 0, locals := 75 }
def wp_X10_maySet (Q : Int32 → St → Prop) (v1 : Int32) (v2 : Int32) (v3 : Int32) (v4 : Int32) (σ : St) : Prop :=
  wp_X10_isSection (fun r1 σ2 =>
  (r1 = 0 → (Q (0 : Int32) σ2)) ∧
  (¬ r1 = 0 → (wp_X10_isAct (fun r4 σ5 =>
  (r4 = 0 → (Q (0 : Int32) σ5)) ∧
  (¬ r4 = 0 → (wp_X10_isDegree (fun r7 σ8 =>
  (r7 = 0 → (Q (0 : Int32) σ8)) ∧
  (¬ r7 = 0 → (wp_X10_isDegree (fun r10 σ11 =>
  (r10 = 0 → (Q (0 : Int32) σ11)) ∧
  (¬ r10 = 0 → ((v3 = v4 → (Q (0 : Int32) σ11)) ∧
  (¬ v3 = v4 → (Q (1 : Int32) σ11))))) v4 σ8))) v3 σ5))) v2 σ2))) v1 σ
abbrev rm_X10_maySet : Room := { frames := 2, cells := 0, slots := 0, locals := 42 }
def wp_X10_set (Q : Int32 → St → Prop) (v1 : Int32) (v2 : Int32) (v3 : Int32) (v4 : Int32) (σ : St) : Prop :=
  wp_X10_maySet (fun r1 σ2 =>
  (¬ r1 = 0 → (∀ x4 : Int32, x4 = (((8 : Int32) * v1) + v2) →
  vp_in x4 48 ∧ (∀ x6 : Int32, x6 = (σ2 1 x4.toNatClampNeg) →
  vp_in x4 48 ∧ (∀ x8 : Int32, x8 = (σ2 2 x4.toNatClampNeg) →
  vp_in x4 48 ∧ (∀ σ10 : St, σ10 = up2 σ2 1 x4.toNatClampNeg v3 →
  vp_in x4 48 ∧ (∀ σ12 : St, σ12 = up2 σ10 2 x4.toNatClampNeg v4 →
  wp_X10_brokenBy (fun r13 σ14 =>
  (r13 < 0 → (Q (1 : Int32) σ14)) ∧
  (¬ r13 < 0 → (vp_in x4 48 ∧ (∀ σ17 : St, σ17 = up2 σ14 1 x4.toNatClampNeg x6 →
  vp_in x4 48 ∧ (∀ σ19 : St, σ19 = up2 σ17 2 x4.toNatClampNeg x8 →
  Q ((-100 : Int32) - r13) σ19))))) v1 σ12)))))) ∧
  (r1 = 0 → (Q (-1 : Int32) σ2))) v1 v2 v3 v4 σ
abbrev rm_X10_set : Room := { frames := 4, cells := 0, slots := 0, locals := 97 }
def wp_X10_would (Q : Int32 → St → Prop) (v1 : Int32) (v2 : Int32) (v3 : Int32) (v4 : Int32) (σ : St) : Prop :=
  wp_X10_maySet (fun r1 σ2 =>
  (¬ r1 = 0 → (∀ x4 : Int32, x4 = (((8 : Int32) * v1) + v2) →
  vp_in x4 48 ∧ (∀ x6 : Int32, x6 = (σ2 1 x4.toNatClampNeg) →
  vp_in x4 48 ∧ (∀ x8 : Int32, x8 = (σ2 2 x4.toNatClampNeg) →
  vp_in x4 48 ∧ (∀ σ10 : St, σ10 = up2 σ2 1 x4.toNatClampNeg v3 →
  vp_in x4 48 ∧ (∀ σ12 : St, σ12 = up2 σ10 2 x4.toNatClampNeg v4 →
  wp_X10_brokenBy (fun r13 σ14 =>
  vp_in x4 48 ∧ (∀ σ16 : St, σ16 = up2 σ14 1 x4.toNatClampNeg x6 →
  vp_in x4 48 ∧ (∀ σ18 : St, σ18 = up2 σ16 2 x4.toNatClampNeg x8 →
  Q ((1 : Int32) + r13) σ18))) v1 σ12)))))) ∧
  (r1 = 0 → (Q (-1 : Int32) σ2))) v1 v2 v3 v4 σ
abbrev rm_X10_would : Room := { frames := 4, cells := 0, slots := 0, locals := 97 }
def wB_X10_turn_24 (Q : Int32 → St → Prop) (LL : St → Int32 → Prop) (v1 : Int32) (v2 : Int32) (σ : St) (v3 : Int32) : Prop :=
  ((8 : Int32) ≤ v3 → (Q (1 : Int32) σ)) ∧
  (¬ (8 : Int32) ≤ v3 → (vp_in (((8 : Int32) * v1) + v3) 48 ∧ (vp_in (((8 : Int32) * v1) + v3) 48 ∧ (∀ σ10 : St, σ10 = up2 σ 1 (((8 : Int32) * v1) + v3).toNatClampNeg (jrem (((σ 1 (((8 : Int32) * v1) + v3).toNatClampNeg) + v2) + (360 : Int32)) (360 : Int32)) →
  vp_in (((8 : Int32) * v1) + v3) 48 ∧ (vp_in (((8 : Int32) * v1) + v3) 48 ∧ (∀ σ13 : St, σ13 = up2 σ10 2 (((8 : Int32) * v1) + v3).toNatClampNeg (jrem (((σ10 2 (((8 : Int32) * v1) + v3).toNatClampNeg) + v2) + (360 : Int32)) (360 : Int32)) →
  ∀ x14 : Int32, x14 = v3 + (1 : Int32) →
  LL σ13 x14))))))
def wl_X10_turn_24 (Q : Int32 → St → Prop) (v1 : Int32) (v2 : Int32) : Nat → St → Int32 → Prop
  | 0, _, _ => False
  | n + 1, σ, v3 => wB_X10_turn_24 Q (wl_X10_turn_24 Q v1 v2 n) v1 v2 σ v3
def wp_X10_turn (Q : Int32 → St → Prop) (v1 : Int32) (v2 : Int32) (σ : St) : Prop :=
  wp_X10_isSection (fun r1 σ2 =>
  (r1 = 0 → (Q (-1 : Int32) σ2)) ∧
  (¬ r1 = 0 → (wp_X10_in (fun r4 σ5 =>
  (¬ r4 = 0 → (∃ n, wl_X10_turn_24 Q v1 v2 n σ5 (0 : Int32))) ∧
  (r4 = 0 → (Q (-1 : Int32) σ5))) v2 (-359 : Int32) (359 : Int32) σ2))) v1 σ
abbrev rm_X10_turn : Room := { frames := 2, cells := 0, slots := 0, locals := 42 }
def wB_X10_copy_18 (Q : Int32 → St → Prop) (LL : St → Int32 → Prop) (v1 : Int32) (v2 : Int32) (σ : St) (v3 : Int32) : Prop :=
  ((8 : Int32) ≤ v3 → (Q (1 : Int32) σ)) ∧
  (¬ (8 : Int32) ≤ v3 → (vp_in (((8 : Int32) * v2) + v3) 48 ∧ (vp_in (((8 : Int32) * v1) + v3) 48 ∧ (∀ σ10 : St, σ10 = up2 σ 1 (((8 : Int32) * v1) + v3).toNatClampNeg (σ 1 (((8 : Int32) * v2) + v3).toNatClampNeg) →
  vp_in (((8 : Int32) * v2) + v3) 48 ∧ (vp_in (((8 : Int32) * v1) + v3) 48 ∧ (∀ σ13 : St, σ13 = up2 σ10 2 (((8 : Int32) * v1) + v3).toNatClampNeg (σ10 2 (((8 : Int32) * v2) + v3).toNatClampNeg) →
  ∀ x14 : Int32, x14 = v3 + (1 : Int32) →
  LL σ13 x14))))))
def wl_X10_copy_18 (Q : Int32 → St → Prop) (v1 : Int32) (v2 : Int32) : Nat → St → Int32 → Prop
  | 0, _, _ => False
  | n + 1, σ, v3 => wB_X10_copy_18 Q (wl_X10_copy_18 Q v1 v2 n) v1 v2 σ v3
def wp_X10_copy (Q : Int32 → St → Prop) (v1 : Int32) (v2 : Int32) (σ : St) : Prop :=
  wp_X10_isSection (fun r1 σ2 =>
  (r1 = 0 → (Q (-1 : Int32) σ2)) ∧
  (¬ r1 = 0 → (wp_X10_isSection (fun r4 σ5 =>
  (¬ r4 = 0 → (∃ n, wl_X10_copy_18 Q v1 v2 n σ5 (0 : Int32))) ∧
  (r4 = 0 → (Q (-1 : Int32) σ5))) v2 σ2))) v1 σ
abbrev rm_X10_copy : Room := { frames := 2, cells := 0, slots := 0, locals := 42 }
def wB_X10_law_112 (Q : Int32 → St → Prop) (LL : St → Int32 → Prop) (σ : St) (v5 : Int32) : Prop :=
  ((6 : Int32) ≤ v5 → (∀ σ25 : St, σ25 = up2 σ 0 2 ((σ 0 2) + (1 : Int32)) →
  Q ((σ25 0 2) - (1 : Int32)) σ25)) ∧
  (¬ (6 : Int32) ≤ v5 → (wp_X10_keeps (fun r26 σ27 =>
  (¬ r26 = 0 → (∀ x29 : Int32, x29 = v5 + (1 : Int32) →
  LL σ27 x29)) ∧
  (r26 = 0 → (Q ((-100 : Int32) - (σ27 0 2)) σ27))) v5 (σ 0 2) (σ 0 7) σ))
def wl_X10_law_112 (Q : Int32 → St → Prop) : Nat → St → Int32 → Prop
  | 0, _, _ => False
  | n + 1, σ, v5 => wB_X10_law_112 Q (wl_X10_law_112 Q n) σ v5
def wb_X10_law_48 (Q : Int32 → St → Prop) (v1 : Int32) (v2 : Int32) (v3 : Int32) (v4 : Int32) (z0 : Int32) (z1 : Int32) (z2 : Int32) (σ : St) : Prop :=
  wp_X10_in (fun r12 σ13 =>
  (¬ r12 = 0 → ((¬ (σ13 0 2) = (16 : Int32) → (vp_in (σ13 0 2) 17 ∧ (∀ σ17 : St, σ17 = up2 σ13 3 (σ13 0 2).toNatClampNeg v1 →
  vp_in (σ17 0 2) 17 ∧ (∀ σ19 : St, σ19 = up2 σ17 4 (σ17 0 2).toNatClampNeg v2 →
  vp_in (σ19 0 2) 17 ∧ (∀ σ21 : St, σ21 = up2 σ19 5 (σ19 0 2).toNatClampNeg v3 →
  vp_in (σ21 0 2) 17 ∧ (∀ σ23 : St, σ23 = up2 σ21 6 (σ21 0 2).toNatClampNeg v4 →
  ∃ n, wl_X10_law_112 Q n σ23 (0 : Int32))))))) ∧
  ((σ13 0 2) = (16 : Int32) → (Q (-2 : Int32) σ13)))) ∧
  (r12 = 0 → (Q (-1 : Int32) σ13))) z2 z1 z0 σ
def wb_X10_law_33 (Q : Int32 → St → Prop) (v1 : Int32) (v2 : Int32) (v3 : Int32) (v4 : Int32) (σ : St) : Prop :=
  (¬ v1 = 0 → (wb_X10_law_48 Q v1 v2 v3 v4 (60000 : Int32) (0 : Int32) v4 σ)) ∧
  (v1 = 0 → (wb_X10_law_48 Q v1 v2 v3 v4 (359 : Int32) (0 : Int32) v4 σ))
def wp_X10_law (Q : Int32 → St → Prop) (v1 : Int32) (v2 : Int32) (v3 : Int32) (v4 : Int32) (σ : St) : Prop :=
  wp_X10_in (fun r1 σ2 =>
  (r1 = 0 → (Q (-1 : Int32) σ2)) ∧
  (¬ r1 = 0 → (wp_X10_isAct (fun r4 σ5 =>
  (r4 = 0 → (Q (-1 : Int32) σ5)) ∧
  (¬ r4 = 0 → (wp_X10_isAct (fun r7 σ8 =>
  (r7 = 0 → (Q (-1 : Int32) σ8)) ∧
  (¬ r7 = 0 → ((¬ v2 = v3 → (wb_X10_law_33 Q v1 v2 v3 v4 σ8)) ∧
  (v2 = v3 → ((¬ v1 = (2 : Int32) → (Q (-1 : Int32) σ8)) ∧
  (v1 = (2 : Int32) → (wb_X10_law_33 Q v1 v2 v3 v4 σ8))))))) v3 σ5))) v2 σ2))) v1 (0 : Int32) (3 : Int32) σ
abbrev rm_X10_law : Room := { frames := 3, cells := 0, slots := 0, locals := 75 }
def wp_X10_repeal (Q : Int32 → St → Prop) (σ : St) : Prop :=
  (¬ (σ 0 2) = 0 → (∀ σ2 : St, σ2 = up2 σ 0 2 ((σ 0 2) - (1 : Int32)) →
  Q (σ2 0 2) σ2)) ∧
  ((σ 0 2) = 0 → (Q (-4 : Int32) σ))
abbrev rm_X10_repeal : Room := { frames := 0, cells := 0, slots := 0, locals := 0 }
def wp_X10_pace (Q : Int32 → St → Prop) (v1 : Int32) (σ : St) : Prop :=
  wp_X10_in (fun r1 σ2 =>
  (¬ r1 = 0 → (wp_X10_brokenAt (fun r4 σ5 =>
  (r4 < 0 → (∀ x7 : Int32, x7 = (σ5 0 7) →
  ∀ σ8 : St, σ8 = up2 σ5 0 7 v1 →
  Q x7 σ8)) ∧
  (¬ r4 < 0 → (Q ((-100 : Int32) - r4) σ5))) v1 σ2)) ∧
  (r1 = 0 → (Q (-1 : Int32) σ2))) v1 (1 : Int32) (60 : Int32) σ
abbrev rm_X10_pace : Room := { frames := 4, cells := 0, slots := 0, locals := 98 }
def wB_X10_fastest_3 (Q : Int32 → St → Prop) (LL : St → Int32 → Prop) (σ : St) (v1 : Int32) : Prop :=
  wp_X10_brokenAt (fun r1 σ2 =>
  (r1 < 0 → (Q v1 σ2)) ∧
  (¬ r1 < 0 → (∀ x4 : Int32, x4 = v1 + (-1 : Int32) →
  LL σ2 x4))) v1 σ
def wl_X10_fastest_3 (Q : Int32 → St → Prop) : Nat → St → Int32 → Prop
  | 0, _, _ => False
  | n + 1, σ, v1 => wB_X10_fastest_3 Q (wl_X10_fastest_3 Q n) σ v1
def wp_X10_fastest (Q : Int32 → St → Prop) (σ : St) : Prop :=
  ∃ n, wl_X10_fastest_3 Q n σ (60 : Int32)
abbrev rm_X10_fastest : Room := { frames := 4, cells := 0, slots := 0, locals := 98 }
def wb_X10_act_38 (Q : Int32 → St → Prop) (v1 : Int32) (v2 : Int32) (v3 : Int32) (v4 : Int32) (σ : St) : Prop :=
  (v3 = (0 : Int32) → (vp_in (((8 : Int32) * v1) + v2) 48 ∧ (Q (σ 1 (((8 : Int32) * v1) + v2).toNatClampNeg) σ))) ∧
  (v3 = (1 : Int32) → (vp_in (((8 : Int32) * v1) + v2) 48 ∧ (Q (σ 2 (((8 : Int32) * v1) + v2).toNatClampNeg) σ))) ∧
  (v3 = (2 : Int32) → (wp_X10_lengthOf (fun r15 σ16 =>
  Q r15 σ16) v1 v2 σ)) ∧
  (¬ v3 = (0 : Int32) → ¬ v3 = (1 : Int32) → ¬ v3 = (2 : Int32) → (wp_X10_isDone (fun r18 σ19 =>
  (r18 = 0 → (Q (0 : Int32) σ19)) ∧
  (¬ r18 = 0 → (Q (1 : Int32) σ19))) v1 v2 v4 σ))
def wp_X10_act (Q : Int32 → St → Prop) (v1 : Int32) (v2 : Int32) (v3 : Int32) (v4 : Int32) (σ : St) : Prop :=
  wp_X10_isSection (fun r1 σ2 =>
  (r1 = 0 → (Q (-1 : Int32) σ2)) ∧
  (¬ r1 = 0 → (wp_X10_isAct (fun r4 σ5 =>
  (r4 = 0 → (Q (-1 : Int32) σ5)) ∧
  (¬ r4 = 0 → (wp_X10_in (fun r7 σ8 =>
  (r7 = 0 → (Q (-1 : Int32) σ8)) ∧
  (¬ r7 = 0 → ((¬ v3 = (3 : Int32) → (wb_X10_act_38 Q v1 v2 v3 v4 σ8)) ∧
  (v3 = (3 : Int32) → (wp_X10_isDegree (fun r21 σ22 =>
  (¬ r21 = 0 → (wb_X10_act_38 Q v1 v2 v3 v4 σ22)) ∧
  (r21 = 0 → (Q (-1 : Int32) σ22))) v4 σ8))))) v3 (0 : Int32) (3 : Int32) σ5))) v2 σ2))) v1 σ
abbrev rm_X10_act : Room := { frames := 2, cells := 0, slots := 0, locals := 45 }
def wb_X10_find_112 (Q : St → Prop) (v1 : Int32) (v2 : Int32) (v4 : Int32) (v5 : Int32) (v6 : Int32) (z0 : Int32) (σ : St) : Prop :=
  ∀ x12 : Int32, x12 = (jrem ((v2 - v6) + (360 : Int32)) (360 : Int32)) →
  vp_in (((6 : Int32) * v1) + v4) 18 ∧ (∀ x14 : Int32, x14 = (σ 9 (((6 : Int32) * v1) + v4).toNatClampNeg) →
  vp_in (((6 : Int32) * v1) + v5) 18 ∧ (∀ σ16 : St, σ16 = up2 σ 0 41 ((x14 * z0) + (((σ 9 (((6 : Int32) * v1) + v5).toNatClampNeg) - x14) * x12)) →
  ∀ σ17 : St, σ17 = up2 σ16 0 42 z0 →
  Q σ17))
def wB_X10_find_15 (Q : St → Prop) (LL : St → Int32 → Int32 → Prop) (v1 : Int32) (v2 : Int32) (v3 : Int32) (σ : St) (v4 : Int32) (v5 : Int32) : Prop :=
  (v3 ≤ v5 → ((¬ v3 = 0) ∧ (∀ x6 : Int32, x6 = (jrem (v4 + (1 : Int32)) v3) →
  vp_in (((6 : Int32) * v1) + v4) 18 ∧ (∀ x8 : Int32, x8 = (σ 8 (((6 : Int32) * v1) + v4).toNatClampNeg) →
  vp_in (((6 : Int32) * v1) + x6) 18 ∧ (∀ x10 : Int32, x10 = (jrem (((σ 8 (((6 : Int32) * v1) + x6).toNatClampNeg) - x8) + (360 : Int32)) (360 : Int32)) →
  (¬ x10 = 0 → (wb_X10_find_112 Q v1 v2 v4 x6 x8 x10 σ)) ∧
  (x10 = 0 → (wb_X10_find_112 Q v1 v2 v4 x6 x8 (360 : Int32) σ))))))) ∧
  (¬ v3 ≤ v5 → (vp_in (((6 : Int32) * v1) + v5) 18 ∧ ((v2 < (σ 8 (((6 : Int32) * v1) + v5).toNatClampNeg) → (∀ x20 : Int32, x20 = v5 + (1 : Int32) →
  LL σ v4 x20)) ∧
  (¬ v2 < (σ 8 (((6 : Int32) * v1) + v5).toNatClampNeg) → (∀ x21 : Int32, x21 = v5 + (1 : Int32) →
  LL σ v5 x21)))))
def wl_X10_find_15 (Q : St → Prop) (v1 : Int32) (v2 : Int32) (v3 : Int32) : Nat → St → Int32 → Int32 → Prop
  | 0, _, _, _ => False
  | n + 1, σ, v4, v5 => wB_X10_find_15 Q (wl_X10_find_15 Q v1 v2 v3 n) v1 v2 v3 σ v4 v5
def wp_X10_find (Q : St → Prop) (v1 : Int32) (v2 : Int32) (σ : St) : Prop :=
  vp_in v1 3 ∧ (∀ x2 : Int32, x2 = (σ 7 v1.toNatClampNeg) →
  ∀ x3 : Int32, x3 = (x2 - (1 : Int32)) →
  ∃ n, wl_X10_find_15 Q v1 v2 x2 n σ x3 (0 : Int32))
abbrev rm_X10_find : Room := { frames := 0, cells := 0, slots := 0, locals := 0 }
def wB_X10_areClear_18 (Q : Int32 → St → Prop) (L2 : St → Int32 → Prop) (L11 : St → Int32 → Prop) (LL : St → Int32 → Prop) (v1 : Int32) (v2 : Int32) (σ : St) (v3 : Int32) : Prop :=
  ((360 : Int32) ≤ v3 → (∀ x6 : Int32, x6 = v2 + (1 : Int32) →
  L11 σ x6)) ∧
  (¬ (360 : Int32) ≤ v3 → (wp_X10_find (fun σ8 =>
  ∀ x9 : Int64, x9 = (((σ8 0 41).toInt64) + ((50 : Int64) * ((σ8 0 42).toInt64))) →
  ∀ x10 : Int64, x10 = (σ8 0 42).toInt64 →
  wp_X10_find (fun σ12 =>
  ((lg_cmp (x9 * ((σ12 0 42).toInt64)) (((σ12 0 41).toInt64) * x10)) ≤ 0 → (∀ x14 : Int32, x14 = v3 + (1 : Int32) →
  LL σ12 x14)) ∧
  (¬ (lg_cmp (x9 * ((σ12 0 42).toInt64)) (((σ12 0 41).toInt64) * x10)) ≤ 0 → (Q (0 : Int32) σ12))) v2 v3 σ8) v1 v3 σ))
def wl_X10_areClear_18 (Q : Int32 → St → Prop) (L2 : St → Int32 → Prop) (L11 : St → Int32 → Prop) (v1 : Int32) (v2 : Int32) : Nat → St → Int32 → Prop
  | 0, _, _ => False
  | n + 1, σ, v3 => wB_X10_areClear_18 Q L2 L11 (wl_X10_areClear_18 Q L2 L11 v1 v2 n) v1 v2 σ v3
def wB_X10_areClear_11 (Q : Int32 → St → Prop) (L2 : St → Int32 → Prop) (LL : St → Int32 → Prop) (v1 : Int32) (σ : St) (v2 : Int32) : Prop :=
  ((3 : Int32) ≤ v2 → (∀ x4 : Int32, x4 = v1 + (1 : Int32) →
  L2 σ x4)) ∧
  (¬ (3 : Int32) ≤ v2 → (∃ n, wl_X10_areClear_18 Q L2 LL v1 v2 n σ (0 : Int32)))
def wl_X10_areClear_11 (Q : Int32 → St → Prop) (L2 : St → Int32 → Prop) (v1 : Int32) : Nat → St → Int32 → Prop
  | 0, _, _ => False
  | n + 1, σ, v2 => wB_X10_areClear_11 Q L2 (wl_X10_areClear_11 Q L2 v1 n) v1 σ v2
def wB_X10_areClear_2 (Q : Int32 → St → Prop) (LL : St → Int32 → Prop) (σ : St) (v1 : Int32) : Prop :=
  ((3 : Int32) ≤ v1 → (Q (1 : Int32) σ)) ∧
  (¬ (3 : Int32) ≤ v1 → (∀ x2 : Int32, x2 = (v1 + (1 : Int32)) →
  ∃ n, wl_X10_areClear_11 Q LL v1 n σ x2))
def wl_X10_areClear_2 (Q : Int32 → St → Prop) : Nat → St → Int32 → Prop
  | 0, _, _ => False
  | n + 1, σ, v1 => wB_X10_areClear_2 Q (wl_X10_areClear_2 Q n) σ v1
def wp_X10_areClear (Q : Int32 → St → Prop) (σ : St) : Prop :=
  ∃ n, wl_X10_areClear_2 Q n σ (0 : Int32)
abbrev rm_X10_areClear : Room := { frames := 1, cells := 0, slots := 0, locals := 29 }
def wB_X10_arm_134 (Q : Int32 → St → Prop) (LL : St → Int32 → Prop) (v1 : Int32) (σ : St) (v3 : Int32) : Prop :=
  ((6 : Int32) ≤ v3 → (Q (-5 : Int32) σ)) ∧
  (¬ (6 : Int32) ≤ v3 → (vp_in v3 6 ∧ (vp_in (((6 : Int32) * v1) + v3) 18 ∧ (∀ σ20 : St, σ20 = up2 σ 8 (((6 : Int32) * v1) + v3).toNatClampNeg (σ 30 v3.toNatClampNeg) →
  vp_in v3 6 ∧ (vp_in (((6 : Int32) * v1) + v3) 18 ∧ (∀ σ23 : St, σ23 = up2 σ20 9 (((6 : Int32) * v1) + v3).toNatClampNeg (σ20 31 v3.toNatClampNeg) →
  ∀ x24 : Int32, x24 = v3 + (1 : Int32) →
  LL σ23 x24))))))
def wl_X10_arm_134 (Q : Int32 → St → Prop) (v1 : Int32) : Nat → St → Int32 → Prop
  | 0, _, _ => False
  | n + 1, σ, v3 => wB_X10_arm_134 Q (wl_X10_arm_134 Q v1 n) v1 σ v3
def wB_X10_arm_28 (Q : Int32 → St → Prop) (LL : St → Int32 → Prop) (v1 : Int32) (v2 : Int32) (σ : St) (v3 : Int32) : Prop :=
  ((6 : Int32) ≤ v3 → (vp_in v1 3 ∧ (∀ σ9 : St, σ9 = up2 σ 7 v1.toNatClampNeg (σ 0 11) →
  wp_X10_areClear (fun r10 σ11 =>
  (¬ r10 = 0 → (∀ σ13 : St, σ13 = up2 σ11 0 11 (0 : Int32) →
  vp_in v1 3 ∧ (Q (σ13 7 v1.toNatClampNeg) σ13))) ∧
  (r10 = 0 → (vp_in v1 3 ∧ (∀ σ16 : St, σ16 = up2 σ11 7 v1.toNatClampNeg v2 →
  ∃ n, wl_X10_arm_134 Q v1 n σ16 (0 : Int32))))) σ9))) ∧
  (¬ (6 : Int32) ≤ v3 → (vp_in (((6 : Int32) * v1) + v3) 18 ∧ (vp_in v3 6 ∧ (∀ σ27 : St, σ27 = up2 σ 30 v3.toNatClampNeg (σ 8 (((6 : Int32) * v1) + v3).toNatClampNeg) →
  vp_in (((6 : Int32) * v1) + v3) 18 ∧ (vp_in v3 6 ∧ (∀ σ30 : St, σ30 = up2 σ27 31 v3.toNatClampNeg (σ27 9 (((6 : Int32) * v1) + v3).toNatClampNeg) →
  vp_in v3 6 ∧ (vp_in (((6 : Int32) * v1) + v3) 18 ∧ (∀ σ33 : St, σ33 = up2 σ30 8 (((6 : Int32) * v1) + v3).toNatClampNeg (σ30 10 v3.toNatClampNeg) →
  vp_in v3 6 ∧ (vp_in (((6 : Int32) * v1) + v3) 18 ∧ (∀ σ36 : St, σ36 = up2 σ33 9 (((6 : Int32) * v1) + v3).toNatClampNeg (σ33 11 v3.toNatClampNeg) →
  ∀ x37 : Int32, x37 = v3 + (1 : Int32) →
  LL σ36 x37))))))))))
def wl_X10_arm_28 (Q : Int32 → St → Prop) (v1 : Int32) (v2 : Int32) : Nat → St → Int32 → Prop
  | 0, _, _ => False
  | n + 1, σ, v3 => wB_X10_arm_28 Q (wl_X10_arm_28 Q v1 v2 n) v1 v2 σ v3
def wp_X10_arm (Q : Int32 → St → Prop) (v1 : Int32) (σ : St) : Prop :=
  wp_X10_isArm (fun r1 σ2 =>
  (¬ r1 = 0 → ((¬ (σ2 0 11) = 0 → (vp_in v1 3 ∧ (∀ x6 : Int32, x6 = (σ2 7 v1.toNatClampNeg) →
  ∃ n, wl_X10_arm_28 Q v1 x6 n σ2 (0 : Int32)))) ∧
  ((σ2 0 11) = 0 → (Q (-4 : Int32) σ2)))) ∧
  (r1 = 0 → (Q (-1 : Int32) σ2))) v1 σ
abbrev rm_X10_arm : Room := { frames := 2, cells := 0, slots := 0, locals := 56 }
def wb_X10_knot_42 (Q : Int32 → St → Prop) (v1 : Int32) (v2 : Int32) (σ : St) : Prop :=
  (¬ (σ 0 11) = (6 : Int32) → (vp_in (σ 0 11) 6 ∧ (∀ σ10 : St, σ10 = up2 σ 10 (σ 0 11).toNatClampNeg v1 →
  vp_in (σ10 0 11) 6 ∧ (∀ σ12 : St, σ12 = up2 σ10 11 (σ10 0 11).toNatClampNeg v2 →
  ∀ σ13 : St, σ13 = up2 σ12 0 11 ((σ12 0 11) + (1 : Int32)) →
  Q (σ13 0 11) σ13)))) ∧
  ((σ 0 11) = (6 : Int32) → (Q (-2 : Int32) σ))
def wp_X10_knot (Q : Int32 → St → Prop) (v1 : Int32) (v2 : Int32) (σ : St) : Prop :=
  wp_X10_isDegree (fun r1 σ2 =>
  (r1 = 0 → (Q (-1 : Int32) σ2)) ∧
  (¬ r1 = 0 → (wp_X10_in (fun r4 σ5 =>
  (r4 = 0 → (Q (-1 : Int32) σ5)) ∧
  (¬ r4 = 0 → (((σ5 0 11) ≤ 0 → (wb_X10_knot_42 Q v1 v2 σ5)) ∧
  (¬ (σ5 0 11) ≤ 0 → (vp_in ((σ5 0 11) - (1 : Int32)) 6 ∧ (((σ5 10 ((σ5 0 11) - (1 : Int32)).toNatClampNeg) < v1 → (wb_X10_knot_42 Q v1 v2 σ5)) ∧
  (¬ (σ5 10 ((σ5 0 11) - (1 : Int32)).toNatClampNeg) < v1 → (Q (-1 : Int32) σ5)))))))) v2 (0 : Int32) (1000 : Int32) σ2))) v1 σ
abbrev rm_X10_knot : Room := { frames := 2, cells := 0, slots := 0, locals := 42 }
def wp_X10_forget (Q : Int32 → St → Prop) (σ : St) : Prop :=
  ∀ x1 : Int32, x1 = (σ 0 11) →
  ∀ σ2 : St, σ2 = up2 σ 0 11 (0 : Int32) →
  Q x1 σ2
abbrev rm_X10_forget : Room := { frames := 0, cells := 0, slots := 0, locals := 0 }
def wB_X10_common_4 (Q : Int32 → St → Prop) (LL : St → Int32 → Int32 → Prop) (σ : St) (v2 : Int32) (v3 : Int32) : Prop :=
  (v3 = 0 → (Q v2 σ)) ∧
  (¬ v3 = 0 → ((¬ v3 = 0) ∧ (∀ x3 : Int32, x3 = (jrem v2 v3) →
  LL σ v3 x3)))
def wl_X10_common_4 (Q : Int32 → St → Prop) : Nat → St → Int32 → Int32 → Prop
  | 0, _, _, _ => False
  | n + 1, σ, v2, v3 => wB_X10_common_4 Q (wl_X10_common_4 Q n) σ v2 v3
def wp_X10_common (Q : Int32 → St → Prop) (v0 : Int32) (v1 : Int32) (σ : St) : Prop :=
  ∃ n, wl_X10_common_4 Q n σ v0 v1
abbrev rm_X10_common : Room := { frames := 0, cells := 0, slots := 0, locals := 0 }
def wp_X10_place (Q : Int32 → St → Prop) (v1 : Int32) (v2 : Int32) (v3 : Int32) (σ : St) : Prop :=
  wp_X10_isArm (fun r1 σ2 =>
  (r1 = 0 → (Q (-1 : Int32) σ2)) ∧
  (¬ r1 = 0 → (wp_X10_isDegree (fun r4 σ5 =>
  (r4 = 0 → (Q (-1 : Int32) σ5)) ∧
  (¬ r4 = 0 → (wp_X10_in (fun r7 σ8 =>
  (¬ r7 = 0 → (wp_X10_find (fun σ11 =>
  wp_X10_common (fun r12 σ13 =>
  (¬ v3 = 0 → ((¬ r12 = 0) ∧ (Q ((σ13 0 42) / r12) σ13))) ∧
  (v3 = 0 → ((¬ r12 = 0) ∧ (Q ((σ13 0 41) / r12) σ13)))) (σ11 0 41) (σ11 0 42) σ11) v1 v2 σ8)) ∧
  (r7 = 0 → (Q (-1 : Int32) σ8))) v3 (0 : Int32) (1 : Int32) σ5))) v2 σ2))) v1 σ
abbrev rm_X10_place : Room := { frames := 2, cells := 0, slots := 0, locals := 42 }
def wb_X10_nearest_115 (Q : Int32 → St → Prop) (L32 : St → Int32 → Int64 → Int64 → Int32 → Prop) (v1 : Int32) (v2 : Int32) (v8 : Int32) (v13 : Int64) (v15 : Int64) (σ : St) : Prop :=
  ∀ x18 : Int32, x18 = v8 + (1 : Int32) →
  L32 σ v8 v13 v15 x18
def wB_X10_nearest_32 (Q : Int32 → St → Prop) (LL : St → Int32 → Int64 → Int64 → Int32 → Prop) (v1 : Int32) (v2 : Int32) (σ : St) (v3 : Int32) (v4 : Int64) (v6 : Int64) (v8 : Int32) : Prop :=
  ((360 : Int32) ≤ v8 → (Q v3 σ)) ∧
  (¬ (360 : Int32) ≤ v8 → (wp_X10_find (fun σ10 =>
  ∀ x11 : Int64, x11 = (σ10 0 41).toInt64 →
  ∀ x12 : Int64, x12 = (σ10 0 42).toInt64 →
  wp_X10_find (fun σ14 =>
  ∀ x15 : Int64, x15 = ((((σ14 0 41).toInt64) * x12) - (x11 * ((σ14 0 42).toInt64))) →
  ∀ x16 : Int64, x16 = (x12 * ((σ14 0 42).toInt64)) →
  (v3 < 0 → (wb_X10_nearest_115 Q LL v1 v2 v8 x15 x16 σ14)) ∧
  (¬ v3 < 0 → ((0 ≤ (lg_cmp (x15 * v6) (v4 * x16)) → (∀ x20 : Int32, x20 = v8 + (1 : Int32) →
  LL σ14 v3 v4 v6 x20)) ∧
  (¬ 0 ≤ (lg_cmp (x15 * v6) (v4 * x16)) → (wb_X10_nearest_115 Q LL v1 v2 v8 x15 x16 σ14))))) v2 v8 σ10) v1 v8 σ))
def wl_X10_nearest_32 (Q : Int32 → St → Prop) (v1 : Int32) (v2 : Int32) : Nat → St → Int32 → Int64 → Int64 → Int32 → Prop
  | 0, _, _, _, _, _ => False
  | n + 1, σ, v3, v4, v6, v8 => wB_X10_nearest_32 Q (wl_X10_nearest_32 Q v1 v2 n) v1 v2 σ v3 v4 v6 v8
def wp_X10_nearest (Q : Int32 → St → Prop) (v1 : Int32) (v2 : Int32) (σ : St) : Prop :=
  wp_X10_isArm (fun r1 σ2 =>
  (r1 = 0 → (Q (-1 : Int32) σ2)) ∧
  (¬ r1 = 0 → (wp_X10_isArm (fun r4 σ5 =>
  (r4 = 0 → (Q (-1 : Int32) σ5)) ∧
  (¬ r4 = 0 → ((v1 < v2 → (∃ n, wl_X10_nearest_32 Q v1 v2 n σ5 (-1 : Int32) (0 : Int64) (1 : Int64) (0 : Int32))) ∧
  (¬ v1 < v2 → (Q (-1 : Int32) σ5))))) v2 σ2))) v1 σ
abbrev rm_X10_nearest : Room := { frames := 2, cells := 0, slots := 0, locals := 42 }
def wB_X10_placeInOrder_2 (Q : Int32 → St → Prop) (LL : St → Int32 → Prop) (v1 : Int32) (σ : St) (v2 : Int32) : Prop :=
  ((σ 0 14) ≤ v2 → (Q (-1 : Int32) σ)) ∧
  (¬ (σ 0 14) ≤ v2 → (vp_in v2 6 ∧ ((¬ (σ 12 v2.toNatClampNeg) = v1 → (∀ x4 : Int32, x4 = v2 + (1 : Int32) →
  LL σ x4)) ∧
  ((σ 12 v2.toNatClampNeg) = v1 → (Q v2 σ)))))
def wl_X10_placeInOrder_2 (Q : Int32 → St → Prop) (v1 : Int32) : Nat → St → Int32 → Prop
  | 0, _, _ => False
  | n + 1, σ, v2 => wB_X10_placeInOrder_2 Q (wl_X10_placeInOrder_2 Q v1 n) v1 σ v2
def wp_X10_placeInOrder (Q : Int32 → St → Prop) (v1 : Int32) (σ : St) : Prop :=
  ∃ n, wl_X10_placeInOrder_2 Q v1 n σ (0 : Int32)
abbrev rm_X10_placeInOrder : Room := { frames := 0, cells := 0, slots := 0, locals := 0 }
def wb_X10_stop_84 (Q : Int32 → St → Prop) (z0 : Int32) (σ : St) : Prop :=
  ∀ σ10 : St, σ10 = up2 σ 0 16 z0 →
  ((σ10 0 16) < (σ10 0 14) → (∀ σ12 : St, σ12 = up2 σ10 0 16 (σ10 0 16) →
  Q (σ12 0 14) σ12)) ∧
  (¬ (σ10 0 16) < (σ10 0 14) → (∀ σ13 : St, σ13 = up2 σ10 0 16 (0 : Int32) →
  Q (σ13 0 14) σ13))
def wB_X10_stop_34 (Q : Int32 → St → Prop) (LL : St → Int32 → Prop) (v2 : Int32) (σ : St) (v3 : Int32) : Prop :=
  ((σ 0 14) ≤ v3 → (((σ 0 16) ≤ v2 → (wb_X10_stop_84 Q (σ 0 16) σ)) ∧
  (¬ (σ 0 16) ≤ v2 → (wb_X10_stop_84 Q ((σ 0 16) - (1 : Int32)) σ)))) ∧
  (¬ (σ 0 14) ≤ v3 → (vp_in (v3 + (1 : Int32)) 6 ∧ (vp_in v3 6 ∧ (∀ σ16 : St, σ16 = up2 σ 12 v3.toNatClampNeg (σ 12 (v3 + (1 : Int32)).toNatClampNeg) →
  ∀ x17 : Int32, x17 = v3 + (1 : Int32) →
  LL σ16 x17))))
def wl_X10_stop_34 (Q : Int32 → St → Prop) (v2 : Int32) : Nat → St → Int32 → Prop
  | 0, _, _ => False
  | n + 1, σ, v3 => wB_X10_stop_34 Q (wl_X10_stop_34 Q v2 n) v2 σ v3
def wp_X10_stop (Q : Int32 → St → Prop) (v1 : Int32) (σ : St) : Prop :=
  wp_X10_isSection (fun r1 σ2 =>
  (¬ r1 = 0 → (wp_X10_placeInOrder (fun r4 σ5 =>
  (0 ≤ r4 → (∀ σ7 : St, σ7 = up2 σ5 0 14 ((σ5 0 14) - (1 : Int32)) →
  ∃ n, wl_X10_stop_34 Q r4 n σ7 r4)) ∧
  (¬ 0 ≤ r4 → (Q (-3 : Int32) σ5))) v1 σ2)) ∧
  (r1 = 0 → (Q (-1 : Int32) σ2))) v1 σ
abbrev rm_X10_stop : Room := { frames := 2, cells := 0, slots := 0, locals := 42 }
def wp_X10_start (Q : Int32 → St → Prop) (v1 : Int32) (σ : St) : Prop :=
  wp_X10_isSection (fun r1 σ2 =>
  (¬ r1 = 0 → (wp_X10_placeInOrder (fun r4 σ5 =>
  (r4 < 0 → (vp_in (σ5 0 14) 6 ∧ (∀ σ8 : St, σ8 = up2 σ5 12 (σ5 0 14).toNatClampNeg v1 →
  ∀ σ9 : St, σ9 = up2 σ8 0 14 ((σ8 0 14) + (1 : Int32)) →
  Q (σ9 0 14) σ9))) ∧
  (¬ r4 < 0 → (Q (-3 : Int32) σ5))) v1 σ2)) ∧
  (r1 = 0 → (Q (-1 : Int32) σ2))) v1 σ
abbrev rm_X10_start : Room := { frames := 2, cells := 0, slots := 0, locals := 42 }
def wp_X10_job (Q : Int32 → St → Prop) (v1 : Int32) (v2 : Int32) (σ : St) : Prop :=
  wp_X10_isSection (fun r1 σ2 =>
  (r1 = 0 → (Q (-1 : Int32) σ2)) ∧
  (¬ r1 = 0 → (wp_X10_isJob (fun r4 σ5 =>
  (¬ r4 = 0 → (vp_in v1 6 ∧ (∀ x8 : Int32, x8 = (σ5 13 v1.toNatClampNeg) →
  vp_in v1 6 ∧ (∀ σ10 : St, σ10 = up2 σ5 13 v1.toNatClampNeg v2 →
  Q x8 σ10)))) ∧
  (r4 = 0 → (Q (-1 : Int32) σ5))) v2 σ2))) v1 σ
abbrev rm_X10_job : Room := { frames := 2, cells := 0, slots := 0, locals := 42 }
def wp_X10_aim (Q : Int32 → St → Prop) (v1 : Int32) (v2 : Int32) (v3 : Int32) (σ : St) : Prop :=
  wp_X10_isJob (fun r1 σ2 =>
  (r1 = 0 → (Q (-1 : Int32) σ2)) ∧
  (¬ r1 = 0 → (wp_X10_in (fun r4 σ5 =>
  (r4 = 0 → (Q (-1 : Int32) σ5)) ∧
  (¬ r4 = 0 → (wp_X10_in (fun r7 σ8 =>
  (¬ r7 = 0 → (vp_in v1 4 ∧ (∀ σ11 : St, σ11 = up2 σ8 15 v1.toNatClampNeg v2 →
  vp_in v1 4 ∧ (∀ σ13 : St, σ13 = up2 σ11 16 v1.toNatClampNeg v3 →
  Q (1 : Int32) σ13)))) ∧
  (r7 = 0 → (Q (-1 : Int32) σ8))) v3 (0 : Int32) (3 : Int32) σ5))) v2 (100 : Int32) (900 : Int32) σ2))) v1 σ
abbrev rm_X10_aim : Room := { frames := 2, cells := 0, slots := 0, locals := 42 }
def wp_X10_glass (Q : Int32 → St → Prop) (v1 : Int32) (v2 : Int32) (σ : St) : Prop :=
  wp_X10_in (fun r1 σ2 =>
  (r1 = 0 → (Q (-1 : Int32) σ2)) ∧
  (¬ r1 = 0 → (wp_X10_in (fun r4 σ5 =>
  (¬ r4 = 0 → ((¬ v1 = (σ5 0 29) → (∀ σ8 : St, σ8 = up2 σ5 0 29 v1 →
  ∀ σ9 : St, σ9 = up2 σ8 0 30 v2 →
  Q (1 : Int32) σ9)) ∧
  (v1 = (σ5 0 29) → (Q (-3 : Int32) σ5)))) ∧
  (r4 = 0 → (Q (-1 : Int32) σ5))) v2 (0 : Int32) (50 : Int32) σ2))) v1 (0 : Int32) (3 : Int32) σ
abbrev rm_X10_glass : Room := { frames := 1, cells := 0, slots := 0, locals := 22 }
def wB_X10_sectionOf_2 (Q : Int32 → St → Prop) (LL : St → Int32 → Prop) (v1 : Int32) (σ : St) (v2 : Int32) : Prop :=
  ((6 : Int32) ≤ v2 → (Q (-1 : Int32) σ)) ∧
  (¬ (6 : Int32) ≤ v2 → (vp_in v2 6 ∧ ((¬ (σ 14 v2.toNatClampNeg) = v1 → (∀ x4 : Int32, x4 = v2 + (1 : Int32) →
  LL σ x4)) ∧
  ((σ 14 v2.toNatClampNeg) = v1 → (Q v2 σ)))))
def wl_X10_sectionOf_2 (Q : Int32 → St → Prop) (v1 : Int32) : Nat → St → Int32 → Prop
  | 0, _, _ => False
  | n + 1, σ, v2 => wB_X10_sectionOf_2 Q (wl_X10_sectionOf_2 Q v1 n) v1 σ v2
def wp_X10_sectionOf (Q : Int32 → St → Prop) (v1 : Int32) (σ : St) : Prop :=
  ∃ n, wl_X10_sectionOf_2 Q v1 n σ (0 : Int32)
abbrev rm_X10_sectionOf : Room := { frames := 0, cells := 0, slots := 0, locals := 0 }
def wp_X10_mould (Q : Int32 → St → Prop) (v1 : Int32) (v2 : Int32) (σ : St) : Prop :=
  wp_X10_isSection (fun r1 σ2 =>
  (r1 = 0 → (Q (-1 : Int32) σ2)) ∧
  (¬ r1 = 0 → (wp_X10_isMould (fun r4 σ5 =>
  (¬ r4 = 0 → (wp_X10_sectionOf (fun r7 σ8 =>
  (r7 < 0 → (vp_in v1 6 ∧ (∀ x11 : Int32, x11 = (σ8 14 v1.toNatClampNeg) →
  vp_in v1 6 ∧ (∀ σ13 : St, σ13 = up2 σ8 14 v1.toNatClampNeg v2 →
  Q x11 σ13)))) ∧
  (¬ r7 < 0 → (Q (-3 : Int32) σ8))) v2 σ5)) ∧
  (r4 = 0 → (Q (-1 : Int32) σ5))) v2 σ2))) v1 σ
abbrev rm_X10_mould : Room := { frames := 2, cells := 0, slots := 0, locals := 42 }
def wp_X10_swab (Q : Int32 → St → Prop) (v1 : Int32) (σ : St) : Prop :=
  wp_X10_isMould (fun r1 σ2 =>
  (¬ r1 = 0 → (vp_in v1 30 ∧ (∀ x5 : Int32, x5 = (σ2 18 v1.toNatClampNeg) →
  vp_in v1 30 ∧ (∀ σ7 : St, σ7 = up2 σ2 18 v1.toNatClampNeg (0 : Int32) →
  Q x5 σ7)))) ∧
  (r1 = 0 → (Q (-1 : Int32) σ2))) v1 σ
abbrev rm_X10_swab : Room := { frames := 2, cells := 0, slots := 0, locals := 42 }
def wp_X10_repair (Q : Int32 → St → Prop) (v1 : Int32) (σ : St) : Prop :=
  wp_X10_isMould (fun r1 σ2 =>
  (¬ r1 = 0 → (vp_in v1 30 ∧ (∀ x5 : Int32, x5 = (σ2 17 v1.toNatClampNeg) →
  vp_in v1 30 ∧ (∀ σ7 : St, σ7 = up2 σ2 17 v1.toNatClampNeg (0 : Int32) →
  vp_in v1 30 ∧ (∀ σ9 : St, σ9 = up2 σ7 18 v1.toNatClampNeg (0 : Int32) →
  vp_in v1 30 ∧ (∀ σ11 : St, σ11 = up2 σ9 19 v1.toNatClampNeg (vp_nar .boolean (0 : Int32)) →
  Q x5 σ11)))))) ∧
  (r1 = 0 → (Q (-1 : Int32) σ2))) v1 σ
abbrev rm_X10_repair : Room := { frames := 2, cells := 0, slots := 0, locals := 42 }
def wp_X10_pull (Q : Int32 → St → Prop) (v1 : Int32) (v2 : Int32) (σ : St) : Prop :=
  wp_X10_isMould (fun r1 σ2 =>
  (¬ r1 = 0 → (vp_in v1 30 ∧ (∀ x5 : Int32, x5 = (σ2 19 v1.toNatClampNeg) →
  vp_in v1 30 ∧ (∀ σ7 : St, σ7 = up2 σ2 19 v1.toNatClampNeg (vp_nar .boolean v2) →
  (¬ x5 = v2 → (Q (1 : Int32) σ7)) ∧
  (x5 = v2 → (Q (0 : Int32) σ7)))))) ∧
  (r1 = 0 → (Q (-1 : Int32) σ2))) v1 σ
abbrev rm_X10_pull : Room := { frames := 2, cells := 0, slots := 0, locals := 42 }
def wb_X10_rule_59 (Q : Int32 → St → Prop) (v1 : Int32) (v2 : Int32) (z0 : Int32) (σ : St) : Prop :=
  (¬ v1 = 0 → (∀ σ11 : St, σ11 = up2 σ 0 28 v2 →
  Q z0 σ11)) ∧
  (v1 = 0 → (∀ σ12 : St, σ12 = up2 σ 0 27 v2 →
  Q z0 σ12))
def wb_X10_rule_34 (Q : Int32 → St → Prop) (v1 : Int32) (v2 : Int32) (z0 : Int32) (z1 : Int32) (z2 : Int32) (σ : St) : Prop :=
  wp_X10_in (fun r6 σ7 =>
  (¬ r6 = 0 → ((¬ v1 = 0 → (wb_X10_rule_59 Q v1 v2 (σ7 0 28) σ7)) ∧
  (v1 = 0 → (wb_X10_rule_59 Q v1 v2 (σ7 0 27) σ7)))) ∧
  (r6 = 0 → (Q (-1000 : Int32) σ7))) z2 z1 z0 σ
def wb_X10_rule_21 (Q : Int32 → St → Prop) (v1 : Int32) (v2 : Int32) (z0 : Int32) (z1 : Int32) (σ : St) : Prop :=
  (¬ v1 = 0 → (wb_X10_rule_34 Q v1 v2 (1000 : Int32) z0 z1 σ)) ∧
  (v1 = 0 → (wb_X10_rule_34 Q v1 v2 (200 : Int32) z0 z1 σ))
def wp_X10_rule (Q : Int32 → St → Prop) (v1 : Int32) (v2 : Int32) (σ : St) : Prop :=
  wp_X10_in (fun r1 σ2 =>
  (r1 = 0 → (Q (-1000 : Int32) σ2)) ∧
  (¬ r1 = 0 → ((¬ v1 = 0 → (wb_X10_rule_21 Q v1 v2 (1 : Int32) v2 σ2)) ∧
  (v1 = 0 → (wb_X10_rule_21 Q v1 v2 (-200 : Int32) v2 σ2))))) v1 (0 : Int32) (1 : Int32) σ
abbrev rm_X10_rule : Room := { frames := 1, cells := 0, slots := 0, locals := 22 }
def wp_X10_book (Q : Int32 → St → Prop) (v1 : Int32) (v2 : Int32) (σ : St) : Prop :=
  wp_X10_isMould (fun r1 σ2 =>
  (¬ r1 = 0 → ((v2 = (0 : Int32) → (vp_in v1 30 ∧ (Q (σ2 17 v1.toNatClampNeg) σ2))) ∧
  (v2 = (1 : Int32) → (vp_in v1 30 ∧ (Q (σ2 18 v1.toNatClampNeg) σ2))) ∧
  (v2 = (2 : Int32) → (vp_in v1 30 ∧ (((σ2 19 v1.toNatClampNeg) = 0 → (Q (0 : Int32) σ2)) ∧
  (¬ (σ2 19 v1.toNatClampNeg) = 0 → (Q (1 : Int32) σ2))))) ∧
  (v2 = (3 : Int32) → (vp_in v1 30 ∧ (Q (σ2 20 v1.toNatClampNeg) σ2))) ∧
  (v2 = (4 : Int32) → (vp_in v1 30 ∧ (Q (σ2 21 v1.toNatClampNeg) σ2))) ∧
  (v2 = (5 : Int32) → (wp_X10_sectionOf (fun r15 σ16 =>
  Q r15 σ16) v1 σ2)) ∧
  (¬ v2 = (0 : Int32) → ¬ v2 = (1 : Int32) → ¬ v2 = (2 : Int32) → ¬ v2 = (3 : Int32) → ¬ v2 = (4 : Int32) → ¬ v2 = (5 : Int32) → (Q (-1 : Int32) σ2)))) ∧
  (r1 = 0 → (Q (-1 : Int32) σ2))) v1 σ
abbrev rm_X10_book : Room := { frames := 2, cells := 0, slots := 0, locals := 42 }
def wp_X10_judgeOf (Q : Int32 → St → Prop) (v1 : Int32) (σ : St) : Prop :=
  vp_in v1 12 ∧ (((σ 28 v1.toNatClampNeg) ≤ 0 → (vp_in v1 12 ∧ (vp_in v1 12 ∧ (∀ x5 : Int32, x5 = ((σ 26 v1.toNatClampNeg) - (σ 27 v1.toNatClampNeg)) →
  vp_in v1 12 ∧ (vp_in (σ 24 v1.toNatClampNeg) 30 ∧ (((σ 19 (σ 24 v1.toNatClampNeg).toNatClampNeg) = 0 → (((20 : Int32) < x5 → (Q (6 : Int32) σ)) ∧
  (¬ (20 : Int32) < x5 → (((-20 : Int32) ≤ x5 → (Q (0 : Int32) σ)) ∧
  (¬ (-20 : Int32) ≤ x5 → (Q (6 : Int32) σ)))))) ∧
  (¬ (σ 19 (σ 24 v1.toNatClampNeg).toNatClampNeg) = 0 → (Q (5 : Int32) σ)))))))) ∧
  (¬ (σ 28 v1.toNatClampNeg) ≤ 0 → (vp_in v1 12 ∧ (Q (σ 28 v1.toNatClampNeg) σ))))
abbrev rm_X10_judgeOf : Room := { frames := 0, cells := 0, slots := 0, locals := 0 }
def wB_X10_comeOff_147 (Q : St → Prop) (LL : St → Int32 → Prop) (σ : St) (v2 : Int32) : Prop :=
  ((σ 0 32) ≤ v2 → (Q σ)) ∧
  (¬ (σ 0 32) ≤ v2 → (vp_in (v2 + (1 : Int32)) 12 ∧ (vp_in v2 12 ∧ (∀ σ22 : St, σ22 = up2 σ 22 v2.toNatClampNeg (σ 22 (v2 + (1 : Int32)).toNatClampNeg) →
  vp_in (v2 + (1 : Int32)) 12 ∧ (vp_in v2 12 ∧ (∀ σ25 : St, σ25 = up2 σ22 23 v2.toNatClampNeg (σ22 23 (v2 + (1 : Int32)).toNatClampNeg) →
  vp_in (v2 + (1 : Int32)) 12 ∧ (vp_in v2 12 ∧ (∀ σ28 : St, σ28 = up2 σ25 24 v2.toNatClampNeg (σ25 24 (v2 + (1 : Int32)).toNatClampNeg) →
  vp_in (v2 + (1 : Int32)) 12 ∧ (vp_in v2 12 ∧ (∀ σ31 : St, σ31 = up2 σ28 25 v2.toNatClampNeg (σ28 25 (v2 + (1 : Int32)).toNatClampNeg) →
  vp_in (v2 + (1 : Int32)) 12 ∧ (vp_in v2 12 ∧ (∀ σ34 : St, σ34 = up2 σ31 26 v2.toNatClampNeg (σ31 26 (v2 + (1 : Int32)).toNatClampNeg) →
  vp_in (v2 + (1 : Int32)) 12 ∧ (vp_in v2 12 ∧ (∀ σ37 : St, σ37 = up2 σ34 27 v2.toNatClampNeg (σ34 27 (v2 + (1 : Int32)).toNatClampNeg) →
  vp_in (v2 + (1 : Int32)) 12 ∧ (vp_in v2 12 ∧ (∀ σ40 : St, σ40 = up2 σ37 28 v2.toNatClampNeg (σ37 28 (v2 + (1 : Int32)).toNatClampNeg) →
  ∀ x41 : Int32, x41 = v2 + (1 : Int32) →
  LL σ40 x41))))))))))))))))
def wl_X10_comeOff_147 (Q : St → Prop) : Nat → St → Int32 → Prop
  | 0, _, _ => False
  | n + 1, σ, v2 => wB_X10_comeOff_147 Q (wl_X10_comeOff_147 Q n) σ v2
def wb_X10_comeOff_135 (Q : St → Prop) (σ : St) : Prop :=
  ∀ σ18 : St, σ18 = up2 σ 0 32 ((σ 0 32) - (1 : Int32)) →
  ∃ n, wl_X10_comeOff_147 Q n σ18 (0 : Int32)
def wb_X10_comeOff_132 (Q : St → Prop) (z0 : Int32) (σ : St) : Prop :=
  ∀ σ47 : St, σ47 = up2 σ 0 26 z0 →
  wb_X10_comeOff_135 Q σ47
def wb_X10_comeOff_60 (Q : St → Prop) (z0 : Int32) (z1 : Int32) (z2 : Int32) (σ : St) : Prop :=
  vp_in z2 30 ∧ (∀ σ15 : St, σ15 = up2 σ 21 z2.toNatClampNeg (z1 + z0) →
  vp_in (0 : Int32) 12 ∧ ((¬ (jrem (σ15 22 (0 : Int32).toNatClampNeg) (4 : Int32)) = 0 → (wb_X10_comeOff_135 Q σ15)) ∧
  ((jrem (σ15 22 (0 : Int32).toNatClampNeg) (4 : Int32)) = 0 → (vp_in (0 : Int32) 12 ∧ (vp_in (0 : Int32) 12 ∧ (∀ σ44 : St, σ44 = up2 σ15 0 26 ((σ15 0 26) + (((σ15 27 (0 : Int32).toNatClampNeg) - (σ15 26 (0 : Int32).toNatClampNeg)) / (2 : Int32))) →
  ((100 : Int32) ≤ (σ44 0 26) → (((σ44 0 26) ≤ (900 : Int32) → (wb_X10_comeOff_132 Q (σ44 0 26) σ44)) ∧
  (¬ (σ44 0 26) ≤ (900 : Int32) → (wb_X10_comeOff_132 Q (900 : Int32) σ44)))) ∧
  (¬ (100 : Int32) ≤ (σ44 0 26) → (wb_X10_comeOff_132 Q (100 : Int32) σ44))))))))
def wb_X10_comeOff_37 (Q : St → Prop) (v1 : Int32) (z0 : Int32) (z1 : Int32) (z2 : Int32) (σ : St) : Prop :=
  vp_in z2 30 ∧ (∀ σ10 : St, σ10 = up2 σ 20 z2.toNatClampNeg (z1 + z0) →
  vp_in (0 : Int32) 12 ∧ (vp_in (σ10 24 (0 : Int32).toNatClampNeg) 30 ∧ ((¬ v1 = 0 → (wb_X10_comeOff_60 Q (1 : Int32) (σ10 21 (σ10 24 (0 : Int32).toNatClampNeg).toNatClampNeg) (σ10 24 (0 : Int32).toNatClampNeg) σ10)) ∧
  (v1 = 0 → (wb_X10_comeOff_60 Q (0 : Int32) (σ10 21 (σ10 24 (0 : Int32).toNatClampNeg).toNatClampNeg) (σ10 24 (0 : Int32).toNatClampNeg) σ10)))))
def wp_X10_comeOff (Q : St → Prop) (σ : St) : Prop :=
  wp_X10_judgeOf (fun r1 σ2 =>
  vp_in r1 7 ∧ (vp_in r1 7 ∧ (∀ σ5 : St, σ5 = up2 σ2 29 r1.toNatClampNeg ((σ2 29 r1.toNatClampNeg) + (1 : Int32)) →
  vp_in (0 : Int32) 12 ∧ (vp_in (σ5 24 (0 : Int32).toNatClampNeg) 30 ∧ ((¬ r1 = 0 → (wb_X10_comeOff_37 Q r1 (0 : Int32) (σ5 20 (σ5 24 (0 : Int32).toNatClampNeg).toNatClampNeg) (σ5 24 (0 : Int32).toNatClampNeg) σ5)) ∧
  (r1 = 0 → (wb_X10_comeOff_37 Q r1 (1 : Int32) (σ5 20 (σ5 24 (0 : Int32).toNatClampNeg).toNatClampNeg) (σ5 24 (0 : Int32).toNatClampNeg) σ5))))))) (0 : Int32) σ
abbrev rm_X10_comeOff : Room := { frames := 1, cells := 0, slots := 0, locals := 22 }
def wb_X10_cutOne_210 (Q : St → Prop) (z0 : Int32) (z1 : Int32) (σ : St) : Prop :=
  ∀ σ38 : St, σ38 = up2 σ 0 30 (z1 - z0) →
  ∀ σ39 : St, σ39 = up2 σ38 0 32 ((σ38 0 32) + (1 : Int32)) →
  ∀ σ40 : St, σ40 = up2 σ39 0 31 ((σ39 0 31) + (1 : Int32)) →
  (¬ (σ40 0 14) = 0) ∧ (∀ σ42 : St, σ42 = up2 σ40 0 16 (jrem ((σ40 0 16) + (1 : Int32)) (σ40 0 14)) →
  Q σ42)
def wb_X10_cutOne_192 (Q : St → Prop) (z0 : Int32) (z1 : Int32) (σ : St) : Prop :=
  vp_in z1 12 ∧ (∀ σ36 : St, σ36 = up2 σ 28 z1.toNatClampNeg z0 →
  ((σ36 0 30) ≤ 0 → (wb_X10_cutOne_210 Q (0 : Int32) (σ36 0 30) σ36)) ∧
  (¬ (σ36 0 30) ≤ 0 → (wb_X10_cutOne_210 Q (1 : Int32) (σ36 0 30) σ36)))
def wp_X10_cutOne (Q : St → Prop) (σ : St) : Prop :=
  vp_in (σ 0 16) 6 ∧ (∀ x2 : Int32, x2 = (σ 12 (σ 0 16).toNatClampNeg) →
  vp_in x2 6 ∧ (∀ x4 : Int32, x4 = (σ 14 x2.toNatClampNeg) →
  vp_in x2 6 ∧ (∀ x6 : Int32, x6 = (σ 13 x2.toNatClampNeg) →
  vp_in x4 30 ∧ (vp_in x4 30 ∧ (∀ σ9 : St, σ9 = up2 σ 17 x4.toNatClampNeg ((σ 17 x4.toNatClampNeg) + (1 : Int32)) →
  vp_in x4 30 ∧ (vp_in x4 30 ∧ (∀ σ12 : St, σ12 = up2 σ9 18 x4.toNatClampNeg ((σ9 18 x4.toNatClampNeg) + (1 : Int32)) →
  ∀ x13 : Int32, x13 = (σ12 0 32) →
  vp_in x13 12 ∧ (∀ σ15 : St, σ15 = up2 σ12 22 x13.toNatClampNeg (σ12 0 31) →
  vp_in x13 12 ∧ (∀ σ17 : St, σ17 = up2 σ15 23 x13.toNatClampNeg x2 →
  vp_in x13 12 ∧ (∀ σ19 : St, σ19 = up2 σ17 24 x13.toNatClampNeg x4 →
  vp_in x13 12 ∧ (∀ σ21 : St, σ21 = up2 σ19 25 x13.toNatClampNeg x6 →
  vp_in x6 4 ∧ (vp_in x13 12 ∧ (∀ σ24 : St, σ24 = up2 σ21 26 x13.toNatClampNeg ((((σ21 0 26) + (σ21 0 27)) + (σ21 15 x6.toNatClampNeg)) - (500 : Int32)) →
  vp_in x6 4 ∧ (vp_in x13 12 ∧ (∀ σ27 : St, σ27 = up2 σ24 27 x13.toNatClampNeg (σ24 15 x6.toNatClampNeg) →
  ((σ27 0 30) ≤ 0 → (vp_in x6 4 ∧ (((σ27 0 29) = (σ27 16 x6.toNatClampNeg) → (vp_in x4 30 ∧ (((σ27 18 x4.toNatClampNeg) ≤ (8 : Int32) → (vp_in x4 30 ∧ (((σ27 17 x4.toNatClampNeg) ≤ (σ27 0 28) → (wb_X10_cutOne_192 Q (0 : Int32) x13 σ27)) ∧
  (¬ (σ27 17 x4.toNatClampNeg) ≤ (σ27 0 28) → (wb_X10_cutOne_192 Q (4 : Int32) x13 σ27))))) ∧
  (¬ (σ27 18 x4.toNatClampNeg) ≤ (8 : Int32) → (wb_X10_cutOne_192 Q (3 : Int32) x13 σ27))))) ∧
  (¬ (σ27 0 29) = (σ27 16 x6.toNatClampNeg) → (wb_X10_cutOne_192 Q (2 : Int32) x13 σ27))))) ∧
  (¬ (σ27 0 30) ≤ 0 → (wb_X10_cutOne_192 Q (1 : Int32) x13 σ27)))))))))))))))))
abbrev rm_X10_cutOne : Room := { frames := 0, cells := 0, slots := 0, locals := 0 }
def wB_X10_cut_26 (Q : Int32 → St → Prop) (LL : St → Int32 → Int32 → Prop) (v1 : Int32) (σ : St) (v2 : Int32) (v3 : Int32) : Prop :=
  (v1 ≤ v3 → (Q v2 σ)) ∧
  (¬ v1 ≤ v3 → ((¬ (σ 0 32) = (12 : Int32) → (wp_X10_cutOne (fun σ8 =>
  ∀ x9 : Int32, x9 = v3 + (1 : Int32) →
  LL σ8 v2 x9) σ)) ∧
  ((σ 0 32) = (12 : Int32) → (wp_X10_comeOff (fun σ11 =>
  ∀ x12 : Int32, x12 = v2 + (1 : Int32) →
  wp_X10_cutOne (fun σ14 =>
  ∀ x15 : Int32, x15 = v3 + (1 : Int32) →
  LL σ14 x12 x15) σ11) σ))))
def wl_X10_cut_26 (Q : Int32 → St → Prop) (v1 : Int32) : Nat → St → Int32 → Int32 → Prop
  | 0, _, _, _ => False
  | n + 1, σ, v2, v3 => wB_X10_cut_26 Q (wl_X10_cut_26 Q v1 n) v1 σ v2 v3
def wp_X10_cut (Q : Int32 → St → Prop) (v1 : Int32) (σ : St) : Prop :=
  wp_X10_in (fun r1 σ2 =>
  (¬ r1 = 0 → ((¬ (σ2 0 14) = 0 → (∃ n, wl_X10_cut_26 Q v1 n σ2 (0 : Int32) (0 : Int32))) ∧
  ((σ2 0 14) = 0 → (Q (-4 : Int32) σ2)))) ∧
  (r1 = 0 → (Q (-1 : Int32) σ2))) v1 (1 : Int32) (100 : Int32) σ
abbrev rm_X10_cut : Room := { frames := 2, cells := 0, slots := 0, locals := 44 }
def wB_X10_drain_7 (Q : Int32 → St → Prop) (LL : St → Int32 → Prop) (v1 : Int32) (σ : St) (v2 : Int32) : Prop :=
  (v1 ≤ v2 → (Q v1 σ)) ∧
  (¬ v1 ≤ v2 → (wp_X10_comeOff (fun σ4 =>
  ∀ x5 : Int32, x5 = v2 + (1 : Int32) →
  LL σ4 x5) σ))
def wl_X10_drain_7 (Q : Int32 → St → Prop) (v1 : Int32) : Nat → St → Int32 → Prop
  | 0, _, _ => False
  | n + 1, σ, v2 => wB_X10_drain_7 Q (wl_X10_drain_7 Q v1 n) v1 σ v2
def wp_X10_drain (Q : Int32 → St → Prop) (σ : St) : Prop :=
  ∀ x1 : Int32, x1 = (σ 0 32) →
  ∃ n, wl_X10_drain_7 Q x1 n σ (0 : Int32)
abbrev rm_X10_drain : Room := { frames := 2, cells := 0, slots := 0, locals := 44 }
def wp_X10_bottle (Q : Int32 → St → Prop) (v1 : Int32) (v2 : Int32) (σ : St) : Prop :=
  wp_X10_in (fun r1 σ2 =>
  (¬ r1 = 0 → ((v2 = (0 : Int32) → (vp_in v1 12 ∧ (Q (σ2 22 v1.toNatClampNeg) σ2))) ∧
  (v2 = (1 : Int32) → (vp_in v1 12 ∧ (Q (σ2 23 v1.toNatClampNeg) σ2))) ∧
  (v2 = (2 : Int32) → (vp_in v1 12 ∧ (Q (σ2 24 v1.toNatClampNeg) σ2))) ∧
  (v2 = (3 : Int32) → (vp_in v1 12 ∧ (Q (σ2 25 v1.toNatClampNeg) σ2))) ∧
  (v2 = (4 : Int32) → (vp_in v1 12 ∧ (Q (σ2 26 v1.toNatClampNeg) σ2))) ∧
  (v2 = (5 : Int32) → (wp_X10_judgeOf (fun r14 σ15 =>
  Q r14 σ15) v1 σ2)) ∧
  (¬ v2 = (0 : Int32) → ¬ v2 = (1 : Int32) → ¬ v2 = (2 : Int32) → ¬ v2 = (3 : Int32) → ¬ v2 = (4 : Int32) → ¬ v2 = (5 : Int32) → (Q (-1 : Int32) σ2)))) ∧
  (r1 = 0 → (Q (-1 : Int32) σ2))) v1 (0 : Int32) ((σ 0 32) - (1 : Int32)) σ
abbrev rm_X10_bottle : Room := { frames := 1, cells := 0, slots := 0, locals := 22 }
def wp_X10_many (Q : Int32 → St → Prop) (v1 : Int32) (σ : St) : Prop :=
  wp_X10_in (fun r1 σ2 =>
  (r1 = 0 → ((v1 = (0 : Int32) → (Q (σ2 0 31) σ2)) ∧
  (v1 = (1 : Int32) → (Q (σ2 0 32) σ2)) ∧
  (v1 = (9 : Int32) → (Q (σ2 0 14) σ2)) ∧
  (v1 = (10 : Int32) → (Q (σ2 0 26) σ2)) ∧
  (v1 = (11 : Int32) → ((¬ (σ2 0 14) = 0 → (vp_in (σ2 0 16) 6 ∧ (Q (σ2 12 (σ2 0 16).toNatClampNeg) σ2))) ∧
  ((σ2 0 14) = 0 → (Q (-1 : Int32) σ2)))) ∧
  (v1 = (12 : Int32) → (Q (σ2 0 30) σ2)) ∧
  (v1 = (13 : Int32) → (Q (σ2 0 2) σ2)) ∧
  (v1 = (14 : Int32) → (Q (σ2 0 7) σ2)) ∧
  (v1 = (15 : Int32) → (Q (σ2 0 29) σ2)) ∧
  (¬ v1 = (0 : Int32) → ¬ v1 = (1 : Int32) → ¬ v1 = (9 : Int32) → ¬ v1 = (10 : Int32) → ¬ v1 = (11 : Int32) → ¬ v1 = (12 : Int32) → ¬ v1 = (13 : Int32) → ¬ v1 = (14 : Int32) → ¬ v1 = (15 : Int32) → (Q (-1 : Int32) σ2)))) ∧
  (¬ r1 = 0 → (vp_in (v1 - (2 : Int32)) 7 ∧ (Q (σ2 29 (v1 - (2 : Int32)).toNatClampNeg) σ2)))) v1 (2 : Int32) (8 : Int32) σ
abbrev rm_X10_many : Room := { frames := 1, cells := 0, slots := 0, locals := 22 }
