/-! THE PURE PART: numbers -/
theorem ti_add {a b : Int32} (h1 : -2147483648 ≤ a.toInt + b.toInt) (h2 : a.toInt + b.toInt ≤ 2147483647) : (a + b).toInt = a.toInt + b.toInt := by
  rw [Int32.toInt_add]
  exact Int.bmod_eq_of_le (by omega) (by omega)
theorem ti_sub {a b : Int32} (h1 : -2147483648 ≤ a.toInt - b.toInt) (h2 : a.toInt - b.toInt ≤ 2147483647) : (a - b).toInt = a.toInt - b.toInt := by
  rw [Int32.toInt_sub]
  exact Int.bmod_eq_of_le (by omega) (by omega)
theorem ti_mul {a b : Int32} (h1 : -2147483648 ≤ a.toInt * b.toInt) (h2 : a.toInt * b.toInt ≤ 2147483647) : (a * b).toInt = a.toInt * b.toInt := by
  rw [Int32.toInt_mul]
  exact Int.bmod_eq_of_le (by omega) (by omega)
theorem jrem_nI {a d : Nat} (ha : a < 2 ^ 31) (h0 : 0 < d) (hd : d < 2 ^ 31) : jrem (nI a) (nI d) = nI (a % d) := pk_rem ha h0 hd
/-- an int that isn't below 0 is a natural number's -/
theorem nI_ex {x : Int32} (h : 0 ≤ x.toInt) : ∃ k : Nat, (k : Int) = x.toInt ∧ k < 2 ^ 31 ∧ x = nI k := by
  obtain ⟨j, hj, e⟩ := nI_of (x := x) (fun z => by
    rw [Int32.lt_iff_toInt_lt] at z
    have : (0 : Int32).toInt = 0 := by decide
    omega)
  exact ⟨j, by rw [e, nI_toInt hj], hj, e⟩
theorem jrem_pos {a : Int32} (h : 0 ≤ a.toInt) {d : Nat} (h0 : 0 < d) (hd : d < 2 ^ 31) : (jrem a (nI d)).toInt = a.toInt % (d : Int) := by
  obtain ⟨k, h1, h2, e⟩ := nI_ex h
  rw [e, jrem_nI h2 h0 hd, nI_toInt (Nat.lt_trans (Nat.mod_lt _ h0) hd), nI_toInt h2]
  omega
theorem bz0 : bz 0 := by unfold bz; decide
theorem bz1 : bz 1 := by unfold bz; decide
theorem zb0 : vp_nar .boolean 0 = 0 := by decide
theorem zb1 : vp_nar .boolean 1 = 1 := by decide
theorem up2_ne {σ : St} {c j : Nat} {x : Int32} {i : Nat} (h : i ≠ c) : up2 σ c j x i = σ i := if_neg h
theorem up2_eq {σ : St} {c j : Nat} {x : Int32} : up2 σ c j x c = upd (σ c) j x := if_pos rfl
theorem upd_eq {f : Nat → Int32} {k : Nat} {x : Int32} : upd f k x k = x := if_pos rfl
theorem upd_ne {f : Nat → Int32} {k j : Nat} {x : Int32} (h : j ≠ k) : upd f k x j = f j := if_neg h
/-- one call of the class and of the reference: the same answer, and related states behind it -/
def JJ (RR : St → St → Prop) (wc wm : (Int32 → St → Prop) → Prop) : Prop := ∃ (r : Int32) (σ' μ' : St), RR σ' μ' ∧ (∀ Q : Int32 → St → Prop, Q r σ' → wc Q) ∧ (∀ Q : Int32 → St → Prop, Q r μ' → wm Q)
theorem JJ.sm {RR : St → St → Prop} {wc wm : (Int32 → St → Prop) → Prop} (h : JJ RR wc wm) : wc (fun r σ => wm (fun r2 μ => r = r2 ∧ RR σ μ)) := by
  obtain ⟨r, σ', μ', h1, h2, h3⟩ := h
  exact h2 _ (h3 _ ⟨rfl, h1⟩)
/-! ranges: both sides ask the same -/
theorem c_btw (a lo hi : Int32) : (¬ a < lo ∧ ¬ hi < a ∧ (∀ (Q : Int32 → St → Prop) (σ : St), Q 1 σ → wp_X9_isBetween Q a lo hi σ) ∧ (∀ (Q : Int32 → St → Prop) (σ : St), Q 1 σ → wp_X10_in Q a lo hi σ)) ∨ ((a < lo ∨ hi < a) ∧ (∀ (Q : Int32 → St → Prop) (σ : St), Q 0 σ → wp_X9_isBetween Q a lo hi σ) ∧ (∀ (Q : Int32 → St → Prop) (σ : St), Q 0 σ → wp_X10_in Q a lo hi σ)) := by
  by_cases h1 : a < lo
  · exact Or.inr ⟨Or.inl h1, fun Q σ q => ⟨fun _ => q, fun z => absurd h1 z⟩, fun Q σ q => ⟨fun _ => q, fun z => absurd h1 z⟩⟩
  · by_cases h2 : hi < a
    · exact Or.inr ⟨Or.inr h2, fun Q σ q => ⟨fun z => absurd z h1, fun _ => ⟨fun _ => q, fun z => absurd h2 z⟩⟩, fun Q σ q => ⟨fun z => absurd z h1, fun _ => ⟨fun _ => q, fun z => absurd h2 z⟩⟩⟩
    · exact Or.inl ⟨h1, h2, fun Q σ q => ⟨fun z => absurd z h1, fun _ => ⟨fun z => absurd z h2, fun _ => q⟩⟩, fun Q σ q => ⟨fun z => absurd z h1, fun _ => ⟨fun z => absurd z h2, fun _ => q⟩⟩⟩
theorem in_of {a hi : Int32} {n : Nat} (h1 : ¬ a < 0) (h2 : ¬ hi < a) (hh : hi.toInt + 1 = n) : vp_in a n := by
  rw [vp_in_iff]
  rw [Int32.lt_iff_toInt_lt] at h1 h2
  have : (0 : Int32).toInt = 0 := by decide
  omega
theorem c_sec (a : Int32) : (vp_in a 6 ∧ (∀ (Q : Int32 → St → Prop) (σ : St), Q 1 σ → wp_X9_isSection Q a σ) ∧ (∀ (Q : Int32 → St → Prop) (σ : St), Q 1 σ → wp_X10_isSection Q a σ)) ∨ ((∀ (Q : Int32 → St → Prop) (σ : St), Q 0 σ → wp_X9_isSection Q a σ) ∧ (∀ (Q : Int32 → St → Prop) (σ : St), Q 0 σ → wp_X10_isSection Q a σ)) := by
  rcases c_btw a 0 5 with ⟨h1, h2, hc, hm⟩ | ⟨h1, hc, hm⟩
  · exact Or.inl ⟨in_of h1 h2 (by decide), fun Q σ q => hc _ σ ⟨bz1, q⟩, fun Q σ q => hm _ σ ⟨bz1, q⟩⟩
  · exact Or.inr ⟨fun Q σ q => hc _ σ ⟨bz0, q⟩, fun Q σ q => hm _ σ ⟨bz0, q⟩⟩
theorem c_act (a : Int32) : (vp_in a 8 ∧ (∀ (Q : Int32 → St → Prop) (σ : St), Q 1 σ → wp_X9_isAct Q a σ) ∧ (∀ (Q : Int32 → St → Prop) (σ : St), Q 1 σ → wp_X10_isAct Q a σ)) ∨ ((∀ (Q : Int32 → St → Prop) (σ : St), Q 0 σ → wp_X9_isAct Q a σ) ∧ (∀ (Q : Int32 → St → Prop) (σ : St), Q 0 σ → wp_X10_isAct Q a σ)) := by
  rcases c_btw a 0 7 with ⟨h1, h2, hc, hm⟩ | ⟨h1, hc, hm⟩
  · exact Or.inl ⟨in_of h1 h2 (by decide), fun Q σ q => hc _ σ ⟨bz1, q⟩, fun Q σ q => hm _ σ ⟨bz1, q⟩⟩
  · exact Or.inr ⟨fun Q σ q => hc _ σ ⟨bz0, q⟩, fun Q σ q => hm _ σ ⟨bz0, q⟩⟩
theorem c_deg (a : Int32) : (vp_in a 360 ∧ (∀ (Q : Int32 → St → Prop) (σ : St), Q 1 σ → wp_X9_isDegree Q a σ) ∧ (∀ (Q : Int32 → St → Prop) (σ : St), Q 1 σ → wp_X10_isDegree Q a σ)) ∨ ((∀ (Q : Int32 → St → Prop) (σ : St), Q 0 σ → wp_X9_isDegree Q a σ) ∧ (∀ (Q : Int32 → St → Prop) (σ : St), Q 0 σ → wp_X10_isDegree Q a σ)) := by
  rcases c_btw a 0 359 with ⟨h1, h2, hc, hm⟩ | ⟨h1, hc, hm⟩
  · exact Or.inl ⟨in_of h1 h2 (by decide), fun Q σ q => hc _ σ ⟨bz1, q⟩, fun Q σ q => hm _ σ ⟨bz1, q⟩⟩
  · exact Or.inr ⟨fun Q σ q => hc _ σ ⟨bz0, q⟩, fun Q σ q => hm _ σ ⟨bz0, q⟩⟩
theorem c_arm (a : Int32) : (vp_in a 3 ∧ (∀ (Q : Int32 → St → Prop) (σ : St), Q 1 σ → wp_X9_isArm Q a σ) ∧ (∀ (Q : Int32 → St → Prop) (σ : St), Q 1 σ → wp_X10_isArm Q a σ)) ∨ ((∀ (Q : Int32 → St → Prop) (σ : St), Q 0 σ → wp_X9_isArm Q a σ) ∧ (∀ (Q : Int32 → St → Prop) (σ : St), Q 0 σ → wp_X10_isArm Q a σ)) := by
  rcases c_btw a 0 2 with ⟨h1, h2, hc, hm⟩ | ⟨h1, hc, hm⟩
  · exact Or.inl ⟨in_of h1 h2 (by decide), fun Q σ q => hc _ σ ⟨bz1, q⟩, fun Q σ q => hm _ σ ⟨bz1, q⟩⟩
  · exact Or.inr ⟨fun Q σ q => hc _ σ ⟨bz0, q⟩, fun Q σ q => hm _ σ ⟨bz0, q⟩⟩
theorem c_mld (a : Int32) : (vp_in a 30 ∧ (∀ (Q : Int32 → St → Prop) (σ : St), Q 1 σ → wp_X9_isMould Q a σ) ∧ (∀ (Q : Int32 → St → Prop) (σ : St), Q 1 σ → wp_X10_isMould Q a σ)) ∨ ((∀ (Q : Int32 → St → Prop) (σ : St), Q 0 σ → wp_X9_isMould Q a σ) ∧ (∀ (Q : Int32 → St → Prop) (σ : St), Q 0 σ → wp_X10_isMould Q a σ)) := by
  rcases c_btw a 0 29 with ⟨h1, h2, hc, hm⟩ | ⟨h1, hc, hm⟩
  · exact Or.inl ⟨in_of h1 h2 (by decide), fun Q σ q => hc _ σ ⟨bz1, q⟩, fun Q σ q => hm _ σ ⟨bz1, q⟩⟩
  · exact Or.inr ⟨fun Q σ q => hc _ σ ⟨bz0, q⟩, fun Q σ q => hm _ σ ⟨bz0, q⟩⟩
theorem c_job (a : Int32) : (vp_in a 4 ∧ (∀ (Q : Int32 → St → Prop) (σ : St), Q 1 σ → wp_X9_isJob Q a σ) ∧ (∀ (Q : Int32 → St → Prop) (σ : St), Q 1 σ → wp_X10_isJob Q a σ)) ∨ ((∀ (Q : Int32 → St → Prop) (σ : St), Q 0 σ → wp_X9_isJob Q a σ) ∧ (∀ (Q : Int32 → St → Prop) (σ : St), Q 0 σ → wp_X10_isJob Q a σ)) := by
  rcases c_btw a 0 3 with ⟨h1, h2, hc, hm⟩ | ⟨h1, hc, hm⟩
  · exact Or.inl ⟨in_of h1 h2 (by decide), fun Q σ q => hc _ σ ⟨bz1, q⟩, fun Q σ q => hm _ σ ⟨bz1, q⟩⟩
  · exact Or.inr ⟨fun Q σ q => hc _ σ ⟨bz0, q⟩, fun Q σ q => hm _ σ ⟨bz0, q⟩⟩
theorem c_col (a : Int32) : (vp_in a 4 ∧ (∀ (Q : Int32 → St → Prop) (σ : St), Q 1 σ → wp_X9_isColour Q a σ) ∧ (∀ (Q : Int32 → St → Prop) (σ : St), Q 1 σ → wp_X10_in Q a 0 3 σ)) ∨ ((∀ (Q : Int32 → St → Prop) (σ : St), Q 0 σ → wp_X9_isColour Q a σ) ∧ (∀ (Q : Int32 → St → Prop) (σ : St), Q 0 σ → wp_X10_in Q a 0 3 σ)) := by
  rcases c_btw a 0 3 with ⟨h1, h2, hc, hm⟩ | ⟨h1, hc, hm⟩
  · exact Or.inl ⟨in_of h1 h2 (by decide), fun Q σ q => hc _ σ ⟨bz1, q⟩, hm⟩
  · exact Or.inr ⟨fun Q σ q => hc _ σ ⟨bz0, q⟩, hm⟩
