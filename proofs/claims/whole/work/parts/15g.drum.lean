/-! drums: law, fastest -/
def mlaw (Q : Int32 → St → Prop) (v1 v2 v3 v4 : Int32) (μ : St) : Prop :=
  (¬ (μ 0 2) = (16 : Int32) → (vp_in (μ 0 2) 17 ∧ (∀ σ17 : St, σ17 = up2 μ 3 (μ 0 2).toNatClampNeg v1 →
  vp_in (σ17 0 2) 17 ∧ (∀ σ19 : St, σ19 = up2 σ17 4 (σ17 0 2).toNatClampNeg v2 →
  vp_in (σ19 0 2) 17 ∧ (∀ σ21 : St, σ21 = up2 σ19 5 (σ19 0 2).toNatClampNeg v3 →
  vp_in (σ21 0 2) 17 ∧ (∀ σ23 : St, σ23 = up2 σ21 6 (σ21 0 2).toNatClampNeg v4 →
  ∃ n, wl_X10_law_112 Q n σ23 (0 : Int32))))))) ∧
  ((μ 0 2) = (16 : Int32) → (Q (-2 : Int32) μ))
set_option maxHeartbeats 1000000 in
theorem c_law (a b c d : Int32) : (vp_in a 4 ∧ vp_in b 8 ∧ vp_in c 8 ∧ 0 ≤ d.toInt ∧ d.toInt ≤ 60000 ∧ (∀ (Q : Int32 → St → Prop) (σ : St), Q 1 σ → wp_X9_isLaw Q a b c d σ) ∧ (∀ (Q : Int32 → St → Prop) (σ : St), mlaw Q a b c d σ → wp_X10_law Q a b c d σ)) ∨ ((∀ (Q : Int32 → St → Prop) (σ : St), Q 0 σ → wp_X9_isLaw Q a b c d σ) ∧ (∀ (Q : Int32 → St → Prop) (σ : St), Q (-1) σ → wp_X10_law Q a b c d σ)) := by
  -- n: how many
  have N : (0 ≤ d.toInt ∧ d.toInt ≤ 60000 ∧ (∀ (Q : Int32 → St → Prop) (σ : St), Q 1 σ → wb_X9_isLaw_37 Q a d σ) ∧ (∀ (Q : Int32 → St → Prop) (σ : St), mlaw Q a b c d σ → wb_X10_law_33 Q a b c d σ)) ∨ ((∀ (Q : Int32 → St → Prop) (σ : St), Q 0 σ → wb_X9_isLaw_37 Q a d σ) ∧ (∀ (Q : Int32 → St → Prop) (σ : St), Q (-1) σ → wb_X10_law_33 Q a b c d σ)) := by
    by_cases a0 : a = 0
    · rcases c_btw d 0 359 with ⟨h1, h2, hc, hm⟩ | ⟨hb, hc, hm⟩
      · have hr : 0 ≤ d.toInt ∧ d.toInt ≤ 359 := rng h1 h2
        exact Or.inl ⟨hr.1, by omega, fun Q σ q => ⟨fun z => absurd a0 z, fun _ => hc _ _ ⟨bz1, q⟩⟩, fun Q σ q => ⟨fun z => absurd a0 z, fun _ => hm _ _ ⟨fun _ => q, fun z => absurd z (by decide)⟩⟩⟩
      · exact Or.inr ⟨fun Q σ q => ⟨fun z => absurd a0 z, fun _ => hc _ _ ⟨bz0, q⟩⟩, fun Q σ q => ⟨fun z => absurd a0 z, fun _ => hm _ _ ⟨fun z => absurd rfl z, fun _ => q⟩⟩⟩
    · rcases c_btw d 0 60000 with ⟨h1, h2, hc, hm⟩ | ⟨hb, hc, hm⟩
      · have hr : 0 ≤ d.toInt ∧ d.toInt ≤ 60000 := rng h1 h2
        exact Or.inl ⟨hr.1, hr.2, fun Q σ q => ⟨fun _ => hc _ _ ⟨bz1, q⟩, fun z => absurd z a0⟩, fun Q σ q => ⟨fun _ => hm _ _ ⟨fun _ => q, fun z => absurd z (by decide)⟩, fun z => absurd z a0⟩⟩
      · exact Or.inr ⟨fun Q σ q => ⟨fun _ => hc _ _ ⟨bz0, q⟩, fun z => absurd z a0⟩, fun Q σ q => ⟨fun _ => hm _ _ ⟨fun z => absurd rfl z, fun _ => q⟩, fun z => absurd z a0⟩⟩
  rcases c_btw a 0 3 with ⟨h1, h2, hc, hm⟩ | ⟨hno, hc, hm⟩
  · have v4 : vp_in a 4 := in_of h1 h2 (by decide)
    rcases c_act b with ⟨hb, hc2, hm2⟩ | ⟨hc2, hm2⟩
    · rcases c_act c with ⟨hcc, hc3, hm3⟩ | ⟨hc3, hm3⟩
      · have C : ∀ (Q : Int32 → St → Prop) (σ : St), ((¬ b = c → (wb_X9_isLaw_37 Q a d σ)) ∧ (b = c → ((a = (2 : Int32) → (wb_X9_isLaw_37 Q a d σ)) ∧ (¬ a = (2 : Int32) → (Q (0 : Int32) σ))))) → wp_X9_isLaw Q a b c d σ := fun Q σ q => hc _ _ ⟨fun z => absurd z (by decide), fun _ => hc2 _ _ ⟨fun z => absurd z (by decide), fun _ => hc3 _ _ ⟨fun _ => q, fun z => absurd z (by decide)⟩⟩⟩
        have M : ∀ (Q : Int32 → St → Prop) (σ : St), ((¬ b = c → (wb_X10_law_33 Q a b c d σ)) ∧ (b = c → ((¬ a = (2 : Int32) → (Q (-1 : Int32) σ)) ∧ (a = (2 : Int32) → (wb_X10_law_33 Q a b c d σ))))) → wp_X10_law Q a b c d σ := fun Q σ q => hm _ _ ⟨fun z => absurd z (by decide), fun _ => hm2 _ _ ⟨fun z => absurd z (by decide), fun _ => hm3 _ _ ⟨fun z => absurd z (by decide), fun _ => q⟩⟩⟩
        by_cases e : b = c
        · by_cases a2 : a = 2
          · rcases N with ⟨n1, n2, n3, n4⟩ | ⟨n3, n4⟩
            · exact Or.inl ⟨v4, hb, hcc, n1, n2, fun Q σ q => C Q σ ⟨fun z => absurd e z, fun _ => ⟨fun _ => n3 _ _ q, fun z => absurd a2 z⟩⟩, fun Q σ q => M Q σ ⟨fun z => absurd e z, fun _ => ⟨fun z => absurd a2 z, fun _ => n4 _ _ q⟩⟩⟩
            · exact Or.inr ⟨fun Q σ q => C Q σ ⟨fun z => absurd e z, fun _ => ⟨fun _ => n3 _ _ q, fun z => absurd a2 z⟩⟩, fun Q σ q => M Q σ ⟨fun z => absurd e z, fun _ => ⟨fun z => absurd a2 z, fun _ => n4 _ _ q⟩⟩⟩
          · exact Or.inr ⟨fun Q σ q => C Q σ ⟨fun z => absurd e z, fun _ => ⟨fun z => absurd z a2, fun _ => q⟩⟩, fun Q σ q => M Q σ ⟨fun z => absurd e z, fun _ => ⟨fun _ => q, fun z => absurd z a2⟩⟩⟩
        · rcases N with ⟨n1, n2, n3, n4⟩ | ⟨n3, n4⟩
          · exact Or.inl ⟨v4, hb, hcc, n1, n2, fun Q σ q => C Q σ ⟨fun _ => n3 _ _ q, fun z => absurd z e⟩, fun Q σ q => M Q σ ⟨fun _ => n4 _ _ q, fun z => absurd z e⟩⟩
          · exact Or.inr ⟨fun Q σ q => C Q σ ⟨fun _ => n3 _ _ q, fun z => absurd z e⟩, fun Q σ q => M Q σ ⟨fun _ => n4 _ _ q, fun z => absurd z e⟩⟩
      · exact Or.inr ⟨fun Q σ q => hc _ _ ⟨fun z => absurd z (by decide), fun _ => hc2 _ _ ⟨fun z => absurd z (by decide), fun _ => hc3 _ _ ⟨fun z => absurd rfl z, fun _ => q⟩⟩⟩, fun Q σ q => hm _ _ ⟨fun z => absurd z (by decide), fun _ => hm2 _ _ ⟨fun z => absurd z (by decide), fun _ => hm3 _ _ ⟨fun _ => q, fun z => absurd rfl z⟩⟩⟩⟩
    · exact Or.inr ⟨fun Q σ q => hc _ _ ⟨fun z => absurd z (by decide), fun _ => hc2 _ _ ⟨fun _ => q, fun z => absurd rfl z⟩⟩, fun Q σ q => hm _ _ ⟨fun z => absurd z (by decide), fun _ => hm2 _ _ ⟨fun _ => q, fun z => absurd rfl z⟩⟩⟩
  · exact Or.inr ⟨fun Q σ q => hc _ _ ⟨fun _ => q, fun z => absurd rfl z⟩, fun Q σ q => hm _ _ ⟨fun _ => q, fun z => absurd rfl z⟩⟩
set_option maxHeartbeats 1000000 in
theorem lawm_loop {μ : St} {d : Nat → (Nat → Int32) × (Nat → Int32)} (hd : mD μ d) {k : Nat} (hk : k < 17) (ek : μ 0 2 = nI k) {l : Nat → Int32} (hl : mL1 μ k l) (p1 : 1 ≤ (μ 0 7).toInt) (p2 : (μ 0 7).toInt ≤ 60) (Q : Int32 → St → Prop) : ∀ (m i : Nat), i + m = 6 →
    ((∀ s, i ≤ s → s < 6 → keepsP (d s).1 (d s).2 l (μ 0 7).toInt) → Q (nI k) (up2 μ 0 2 (nI (k + 1))) → ∃ fu, wl_X10_law_112 Q fu μ (nI i)) ∧ ((¬ ∀ s, i ≤ s → s < 6 → keepsP (d s).1 (d s).2 l (μ 0 7).toInt) → Q (-100 - nI k) μ → ∃ fu, wl_X10_law_112 Q fu μ (nI i)) := by
  obtain ⟨l0, l1, l2, l3, lo⟩ := hl
  intro m
  induction m with
  | zero =>
    intro i hi
    have hle : (6 : Int32) ≤ nI i := nI_le (a := 6) (by omega) (by omega)
    refine ⟨fun _ q => ⟨1, ⟨fun _ x ex => ?_, fun z => absurd hle z⟩⟩, fun z => absurd (fun s h1 h2 => absurd h1 (by omega)) z⟩
    subst ex
    rw [ek, nI_1]
    have e : up2 μ 0 2 (nI (k + 1)) 0 2 - 1 = nI k := nI_pred k
    rw [e]
    exact q
  | succ m ih =>
    intro i hi
    have hlt : ¬ (6 : Int32) ≤ nI i := nI_ge (b := 6) (by omega) (by omega)
    obtain ⟨b, hb, hq⟩ := keeps_m (l := l) (show i < 6 by omega) hk (fun a ha => (hd.1 i a (by omega) ha).1.symm) (fun a ha => (hd.1 i a (by omega) ha).2.symm) (hd.2 i (by omega)) l0 l1 l2 l3 lo p1 p2
    rcases hb with ⟨hb, hkk⟩ | ⟨hb, hkk⟩
    · obtain ⟨ih1, ih2⟩ := ih (i + 1) (by omega)
      have hiff : (∀ s, i ≤ s → s < 6 → keepsP (d s).1 (d s).2 l (μ 0 7).toInt) ↔ (∀ s, i + 1 ≤ s → s < 6 → keepsP (d s).1 (d s).2 l (μ 0 7).toInt) := by
        refine ⟨fun z s h1 h2 => z s (by omega) h2, fun z s h1 h2 => ?_⟩
        by_cases y : s = i
        · rw [y]; exact hkk
        · exact z s (by omega) h2
      rw [hiff]
      refine ⟨fun z q => ?_, fun z q => ?_⟩
      · obtain ⟨fu, hfu⟩ := ih1 z q
        refine ⟨fu + 1, ⟨fun z => absurd z hlt, fun _ => ?_⟩⟩
        rw [ek]
        refine hq _ ⟨fun _ x ex => ?_, fun z => absurd (hb.symm.trans z) (by decide)⟩
        subst ex
        rw [nI_1]
        exact hfu
      · obtain ⟨fu, hfu⟩ := ih2 z q
        refine ⟨fu + 1, ⟨fun z => absurd z hlt, fun _ => ?_⟩⟩
        rw [ek]
        refine hq _ ⟨fun _ x ex => ?_, fun z => absurd (hb.symm.trans z) (by decide)⟩
        subst ex
        rw [nI_1]
        exact hfu
    · refine ⟨fun z => absurd (z i (Nat.le_refl _) (by omega)) hkk, fun _ q => ⟨1, ⟨fun z => absurd z hlt, fun _ => ?_⟩⟩⟩
      rw [ek]
      refine hq _ ⟨fun z => absurd hb z, fun _ => ?_⟩
      rw [ek]
      exact q
set_option maxHeartbeats 2000000 in
theorem j_law {σ μ : St} (h : RR σ μ) (a b c d : Int32) : JJ RR (fun Q => wp_X9_law Q a b c d σ) (fun Q => wp_X10_law Q a b c d μ) := by
  rcases c_law a b c d with ⟨v4, hb, hc, d1, d2, kc, km⟩ | ⟨kc, km⟩
  · have hD := h.2.2.2.2.2.1
    obtain ⟨n, h1, h2, h3, h4, h5, h6, h7, h8, h9, h10⟩ := hD
    have cn : (nI n).toNatClampNeg = n := nI_clamp (by omega)
    by_cases hf : n = 16
    · have x1 : ¬ (σ 1 3) < (16 : Int32) := by rw [h2, hf]; decide
      have x2 : μ 0 2 = 16 := by rw [h3, hf]; rfl
      exact ⟨-2, σ, μ, h, fun Q q => kc _ _ ⟨fun _ => ⟨fun z => absurd z x1, fun _ => q⟩, fun z => absurd z (by decide)⟩, fun Q q => km _ _ ⟨fun z => absurd x2 z, fun _ => q⟩⟩
    · have x1 : (σ 1 3) < (16 : Int32) := by
        rw [h2, Int32.lt_iff_toInt_lt, nI_toInt (by omega)]
        have : (16 : Int32).toInt = 16 := by decide
        omega
      have x2 : ¬ μ 0 2 = 16 := by
        rw [h3]
        intro z
        have := congrArg Int32.toInt z
        rw [nI_toInt (by omega)] at this
        have : (16 : Int32).toInt = 16 := by decide
        omega
      have v16 : vp_in (nI n) 16 := vp_in_nI (by omega) (by decide)
      have v17 : vp_in (nI n) 17 := vp_in_nI (by omega) (by decide)
      -- the states with the new law
      have S : ∀ i, i ≠ 25 + n → up2 (up2 (up2 (up2 σ (25 + n) 0 a) (25 + n) 1 b) (25 + n) 2 c) (25 + n) 3 d i = σ i := fun i hi => by rw [up2_ne hi, up2_ne hi, up2_ne hi, up2_ne hi]
      have SL : up2 (up2 (up2 (up2 σ (25 + n) 0 a) (25 + n) 1 b) (25 + n) 2 c) (25 + n) 3 d (25 + n) = upd (upd (upd (upd (σ (25 + n)) 0 a) 1 b) 2 c) 3 d := by rw [up2_eq, up2_eq, up2_eq, up2_eq]
      have hlo : lawOK (upd (upd (upd (upd (σ (25 + n)) 0 a) 1 b) 2 c) 3 d) := ⟨v4, hb, hc, d1, d2⟩
      generalize hσ' : up2 (up2 (up2 (up2 σ (25 + n) 0 a) (25 + n) 1 b) (25 + n) 2 c) (25 + n) 3 d = σ' at S SL
      have p14 : σ' 1 = σ 1 := S 1 (by omega)
      obtain ⟨r, hr, hq⟩ := any_c (σ := σ') (k := n) (p := σ' 1 4) (by omega) (by rw [p14]; exact h5) (by rw [p14]; exact h6) (by rw [SL]; exact hlo) (fun s hs => by rw [S _ (by omega), S _ (by omega)]; exact h8 s hs)
      have hmD : mD (up2 (up2 (up2 (up2 μ 3 n a) 4 n b) 5 n c) 6 n d) (dS σ) := ⟨h7, h8⟩
      have hmL : mL1 (up2 (up2 (up2 (up2 μ 3 n a) 4 n b) 5 n c) 6 n d) n (upd (upd (upd (upd (σ (25 + n)) 0 a) 1 b) 2 c) 3 d) := ⟨upd_eq, upd_eq, upd_eq, upd_eq, hlo⟩
      have L := fun Q => lawm_loop (μ := up2 (up2 (up2 (up2 μ 3 n a) 4 n b) 5 n c) 6 n d) hmD (show n < 17 by omega) h3 hmL (by show 1 ≤ (μ 0 7).toInt; rw [← h4]; exact h5) (by show (μ 0 7).toInt ≤ 60; rw [← h4]; exact h6) Q 6 0 rfl
      have e7 : up2 (up2 (up2 (up2 μ 3 n a) 4 n b) 5 n c) 6 n d 0 7 = σ 1 4 := h4.symm
      rw [e7] at L
      have hall : allK (dS σ') (σ' (25 + n)) (σ' 1 4).toInt ↔ ∀ s, 0 ≤ s → s < 6 → keepsP (dS σ s).1 (dS σ s).2 (upd (upd (upd (upd (σ (25 + n)) 0 a) 1 b) 2 c) 3 d) (σ 1 4).toInt := by
        rw [allK_0, SL, p14]
        refine ⟨fun z s z1 z2 => ?_, fun z s z1 z2 => ?_⟩
        · have := z s z1 z2
          unfold dS at this
          rw [S _ (by omega), S _ (by omega)] at this
          exact this
        · have := z s z1 z2
          unfold dS
          rw [S _ (by omega), S _ (by omega)]
          exact this
      -- what the two sides go on with
      have MM : ∀ Q : Int32 → St → Prop, (∃ fu, wl_X10_law_112 Q fu (up2 (up2 (up2 (up2 μ 3 n a) 4 n b) 5 n c) 6 n d) (nI 0)) → wp_X10_law Q a b c d μ := fun Q q => by
        refine km _ _ ⟨fun _ => ?_, fun z => absurd z x2⟩
        rw [h3, cn]
        refine ⟨v17, fun x ex => ?_⟩
        subst ex
        have y1 : up2 μ 3 n a 0 2 = nI n := h3
        rw [y1, cn]
        refine ⟨v17, fun x ex => ?_⟩
        subst ex
        have y2 : up2 (up2 μ 3 n a) 4 n b 0 2 = nI n := h3
        rw [y2, cn]
        refine ⟨v17, fun x ex => ?_⟩
        subst ex
        have y3 : up2 (up2 (up2 μ 3 n a) 4 n b) 5 n c 0 2 = nI n := h3
        rw [y3, cn]
        refine ⟨v17, fun x ex => ?_⟩
        subst ex
        exact q
      have CC : ∀ Q : Int32 → St → Prop, wp_X3_anyBreaks (fun r9 σ10 => (r9 = 0 → (∀ σ12 : St, σ12 = up2 σ10 1 3 (nI n + (1 : Int32)) → Q (nI n) σ12)) ∧ (¬ r9 = 0 → (Q ((-100 : Int32) - nI n) σ10))) (nI n) (σ' 1 4) σ' → wp_X9_law Q a b c d σ := fun Q q => by
        refine kc _ _ ⟨fun _ => ⟨fun _ x ex => ?_, fun z => absurd x1 z⟩, fun z => absurd z (by decide)⟩
        rw [h2] at ex
        subst ex
        refine ⟨v16, ?_⟩
        rw [cn]
        intro x ex y ey w ew t et
        subst et; subst ew; subst ey; subst ex
        rw [hσ']
        exact q
      rcases hr with ⟨r0, hk⟩ | ⟨r1, hk⟩
      · have hk' := hall.mp hk
        refine ⟨nI n, up2 σ' 1 3 (nI (n + 1)), up2 (up2 (up2 (up2 (up2 μ 3 n a) 4 n b) 5 n c) 6 n d) 0 2 (nI (n + 1)), RR_drum h (fun i hi => by rw [up2_ne (by omega), S i (by omega)]) (fun i hi => by rw [up2_ne (by omega), up2_ne (by omega), up2_ne (by omega), up2_ne (by omega), up2_ne (by omega)]) (fun k k1 k2 => upd_ne (f := μ 0) k1) ⟨n + 1, by omega, rfl, rfl, (by show σ' 1 4 = μ 0 7; rw [p14]; exact h4), (by show 1 ≤ (σ' 1 4).toInt; rw [p14]; exact h5), (by show (σ' 1 4).toInt ≤ 60; rw [p14]; exact h6), fun s x hs hx => ?_, fun s hs => ?_, fun k hk2 => ?_, fun k s hk2 hs => ?_⟩, fun Q q => CC Q (hq _ ⟨fun _ x ex => ?_, fun z => absurd r0 z⟩), fun Q q => MM Q ((L Q).1 hk' q)⟩
        · rw [up2_ne (σ := σ') (i := 5 + 3 * s) (by omega), up2_ne (σ := σ') (i := 6 + 3 * s) (by omega), S _ (by omega), S _ (by omega)]; exact h7 s x hs hx
        · rw [up2_ne (by omega), up2_ne (by omega), S _ (by omega), S _ (by omega)]; exact h8 s hs
        · rw [up2_ne (σ := σ') (i := 25 + k) (by omega)]
          by_cases z : k = n
          · rw [z, SL]
            exact ⟨(upd_eq (f := μ 3)).symm, (upd_eq (f := μ 4)).symm, (upd_eq (f := μ 5)).symm, (upd_eq (f := μ 6)).symm, hlo⟩
          · rw [S _ (by omega)]
            obtain ⟨w0, w1, w2, w3, w4⟩ := h9 k (by omega)
            exact ⟨w0.trans (upd_ne (f := μ 3) z).symm, w1.trans (upd_ne (f := μ 4) z).symm, w2.trans (upd_ne (f := μ 5) z).symm, w3.trans (upd_ne (f := μ 6) z).symm, w4⟩
        · have p' : up2 σ' 1 3 (nI (n + 1)) 1 4 = σ 1 4 := by show σ' 1 4 = σ 1 4; rw [p14]
          rw [p', up2_ne (by omega), up2_ne (by omega), up2_ne (by omega), S (5 + 3 * s) (by omega), S (6 + 3 * s) (by omega)]
          by_cases z : k = n
          · rw [z, SL]
            exact hk' s (Nat.zero_le _) hs
          · rw [S _ (by omega)]
            exact h10 k s (by omega) hs
        · subst ex
          rw [nI_1]
          exact q
      · have hk' : ¬ ∀ s, 0 ≤ s → s < 6 → keepsP (dS σ s).1 (dS σ s).2 (upd (upd (upd (upd (σ (25 + n)) 0 a) 1 b) 2 c) 3 d) (σ 1 4).toInt := fun z => hk (hall.mpr z)
        refine ⟨-100 - nI n, σ', up2 (up2 (up2 (up2 μ 3 n a) 4 n b) 5 n c) 6 n d, RR_drum h (fun i hi => S i (by omega)) (fun i hi => by rw [up2_ne (by omega), up2_ne (by omega), up2_ne (by omega), up2_ne (by omega)]) (fun _ _ _ => rfl) ⟨n, h1, (by rw [p14]; exact h2), h3, (by rw [p14]; exact h4), (by rw [p14]; exact h5), (by rw [p14]; exact h6), fun s x hs hx => ?_, fun s hs => ?_, fun k hk2 => ?_, fun k s hk2 hs => ?_⟩, fun Q q => CC Q (hq _ ⟨fun z => absurd (r1.symm.trans z) (by decide), fun _ => q⟩), fun Q q => MM Q ((L Q).2 hk' q)⟩
        · rw [S (5 + 3 * s) (by omega), S (6 + 3 * s) (by omega)]; exact h7 s x hs hx
        · rw [S (5 + 3 * s) (by omega), S (6 + 3 * s) (by omega)]; exact h8 s hs
        · rw [S (25 + k) (by omega)]
          have z : k ≠ n := by omega
          obtain ⟨w0, w1, w2, w3, w4⟩ := h9 k (by omega)
          exact ⟨w0.trans (upd_ne (f := μ 3) z).symm, w1.trans (upd_ne (f := μ 4) z).symm, w2.trans (upd_ne (f := μ 5) z).symm, w3.trans (upd_ne (f := μ 6) z).symm, w4⟩
        · rw [p14, S (5 + 3 * s) (by omega), S (6 + 3 * s) (by omega), S (25 + k) (by omega)]
          exact h10 k s hk2 hs
  · exact ⟨-1, σ, μ, h, fun Q q => kc _ _ ⟨fun z => absurd rfl z, fun _ => q⟩, fun Q q => km _ _ q⟩
/-! the fastest pace -/
theorem kp_any {f g l : Nat → Int32} {p q : Int} (hl : ¬ l 0 = 2) : keepsP f g l p ↔ keepsP f g l q := by
  unfold keepsP
  exact ⟨fun h => ⟨h.1, h.2.1, fun z => absurd z hl, h.2.2.2⟩, fun h => ⟨h.1, h.2.1, fun z => absurd z hl, h.2.2.2⟩⟩
set_option maxHeartbeats 1000000 in
theorem gp1 {σ : St} {o0 o1 : Nat} (hl : lawOK (σ o0)) (hd : drumOK (σ (o1 + 1)) (σ (o1 + 2))) {p0 : Int} (hk : keepsP (σ (o1 + 1)) (σ (o1 + 2)) (σ o0) p0) : ∃ r : Int32, (∀ p : Int, 1 ≤ p → p ≤ 60 → (p ≤ r.toInt ↔ keepsP (σ (o1 + 1)) (σ (o1 + 2)) (σ o0) p)) ∧ ∀ Q : Int32 → St → Prop, Q r σ → wp_X8_greatestPace Q o0 o1 σ := by
  have t60 : (60 : Int32).toInt = 60 := by decide
  have t1 : (1 : Int32).toInt = 1 := by decide
  obtain ⟨k4, a8, b8, n1, n2⟩ := hl
  have ha := vp_lt a8
  by_cases k2 : σ o0 0 = 2
  · by_cases hn : (1 : Int32) ≤ σ o0 3
    · obtain ⟨le, l1, l2⟩ := lenV_ti hd ha
      have hn' := hn
      rw [Int32.le_iff_toInt_le, t1] at hn'
      obtain ⟨N, eN, bN, fN⟩ := nI_ex (x := σ o0 3) n1
      obtain ⟨L, eL, bL, fL⟩ := nI_ex (x := wayV (σ (o1 + 1) (σ o0 1).toNatClampNeg) (σ (o1 + 2) (σ o0 1).toNatClampNeg)) (by rw [le]; omega)
      have e1 : (3 : Int32) * σ o0 3 = nI (3 * N) := by rw [fN, show (3 : Int32) = nI 3 from rfl, pk_mul]
      have e2 : wayV (σ (o1 + 1) (σ o0 1).toNatClampNeg) (σ (o1 + 2) (σ o0 1).toNatClampNeg) * 500 = nI (L * 500) := by rw [fL, show (500 : Int32) = nI 500 from rfl, pk_mul]
      have e3 : nI (L * 500) / nI (3 * N) = nI (L * 500 / (3 * N)) := pk_div (by omega) (by omega) (by omega)
      have hq : L * 500 / (3 * N) ≤ L * 500 := Nat.div_le_self _ _
      have hne : ¬ (3 : Int32) * σ o0 3 = 0 := by
        rw [e1]
        intro z
        have := congrArg Int32.toInt z
        rw [nI_toInt (by omega)] at this
        have z0 : (0 : Int32).toInt = 0 := by decide
        omega
      refine ⟨nI (L * 500 / (3 * N)), fun p p1 p2 => ?_, fun Q q => ⟨fun z => absurd k2 z, fun _ => ⟨fun _ => len_c a8 ⟨hne, ?_⟩, fun z => absurd hn z⟩⟩⟩
      · rw [kp2 k2, nI_toInt (by omega), ← le, ← eL, ← eN]
        obtain ⟨P, rfl⟩ : ∃ P : Nat, p = (P : Int) := ⟨p.toNat, by omega⟩
        have h := Nat.le_div_iff_mul_le (x := P) (y := L * 500) (k := 3 * N) (by omega)
        have e4 : (3 : Int) * P * N = ((P * (3 * N) : Nat) : Int) := by
          rw [Int.natCast_mul, Int.natCast_mul]
          rw [Int.mul_comm 3 (P : Int), Int.mul_assoc]
          rfl
        rw [e4]
        omega
      · rw [e1, e2, e3]
        exact q
    · have hn' := hn
      rw [Int32.le_iff_toInt_le, t1] at hn'
      have z : (σ o0 3).toInt = 0 := by omega
      obtain ⟨le, l1, l2⟩ := lenV_ti hd ha
      refine ⟨60, fun p p1 p2 => ?_, fun Q q => ⟨fun z => absurd k2 z, fun _ => ⟨fun z => absurd z hn, fun _ => q⟩⟩⟩
      rw [kp2 k2, z, t60]
      omega
  · refine ⟨60, fun p p1 p2 => ?_, fun Q q => ⟨fun _ => q, fun z => absurd z k2⟩⟩
    rw [t60]
    exact ⟨fun _ => (kp_any k2).mp hk, fun _ => p2⟩
set_option maxHeartbeats 1000000 in
theorem gp_in {σ : St} {k : Nat} (hk : k < 16) {p0 : Int} (hl : lawOK (σ (25 + k))) (hd : ∀ s, s < 6 → drumOK (σ (5 + 3 * s)) (σ (6 + 3 * s))) (hkp : allK (dS σ) (σ (25 + k)) p0) : ∀ (m i : Nat) (v : Int32), i + m = 6 →
    ∃ r : Int32, (∀ p : Int, 1 ≤ p → p ≤ 60 → (p ≤ r.toInt ↔ p ≤ v.toInt ∧ ∀ s, i ≤ s → s < 6 → keepsP (dS σ s).1 (dS σ s).2 (σ (25 + k)) p)) ∧ r.toInt ≤ v.toInt ∧ ∀ (Q : Int32 → St → Prop) (L5 : St → Int32 → Int32 → Prop), L5 σ r (nI (k + 1)) → ∃ fu, wl_X3_greatestPace_15 Q L5 (nI k) fu σ v (nI i) := by
  have ck : (nI k).toNatClampNeg = k := nI_clamp (by omega)
  have vk : vp_in (nI k) 16 := vp_in_nI (by omega) (by decide)
  intro m
  induction m with
  | zero =>
    intro i v hi
    have hle : (6 : Int32) ≤ nI i := nI_le (a := 6) (by omega) (by omega)
    refine ⟨v, fun p p1 p2 => ⟨fun z => ⟨z, fun s h1 h2 => absurd h1 (by omega)⟩, fun z => z.1⟩, Int.le_refl _, fun Q L5 q => ⟨1, ⟨fun _ x ex => ?_, fun z => absurd hle z⟩⟩⟩
    subst ex
    rw [nI_1]
    exact q
  | succ m ih =>
    intro i v hi
    have hlt : ¬ (6 : Int32) ≤ nI i := nI_ge (b := 6) (by omega) (by omega)
    have ci : (nI i).toNatClampNeg = i := nI_clamp (by omega)
    have vi : vp_in (nI i) 6 := vp_in_nI (by omega) (by decide)
    have e1 : 4 + 3 * i + 1 = 5 + 3 * i := by omega
    have e2 : 4 + 3 * i + 2 = 6 + 3 * i := by omega
    obtain ⟨g, hg, hq⟩ := gp1 (σ := σ) (o0 := 25 + k) (o1 := 4 + 3 * i) hl (by rw [e1, e2]; exact hd i (by omega)) (p0 := p0) (by rw [e1, e2]; exact hkp i (by omega))
    rw [e1, e2] at hg
    obtain ⟨r, hr, hle, he⟩ := ih (i + 1) (if g < v then g else v) (by omega)
    have hmin : ∀ p : Int, p ≤ (if g < v then g else v).toInt ↔ p ≤ g.toInt ∧ p ≤ v.toInt := by
      intro p
      by_cases z : g < v
      · rw [if_pos z]
        rw [Int32.lt_iff_toInt_lt] at z
        omega
      · rw [if_neg z]
        rw [Int32.lt_iff_toInt_lt] at z
        omega
    refine ⟨r, fun p p1 p2 => ?_, ?_, fun Q L5 q => ?_⟩
    · rw [hr p p1 p2, hmin, hg p p1 p2]
      constructor
      · intro z
        refine ⟨z.1.2, fun s h1 h2 => ?_⟩
        by_cases y : s = i
        · rw [y]; exact z.1.1
        · exact z.2 s (by omega) h2
      · intro z
        exact ⟨⟨z.2 i (Nat.le_refl _) (by omega), z.1⟩, fun s h1 h2 => z.2 s (by omega) h2⟩
    · have := (hmin _).mp hle
      exact this.2
    · obtain ⟨fu, hfu⟩ := he Q L5 q
      refine ⟨fu + 1, ⟨fun z => absurd z hlt, fun _ => ⟨vk, vi, ?_⟩⟩⟩
      rw [ci, ck]
      refine hq _ (fun x ex y ey => ?_)
      subst ey; subst ex
      rw [nI_1]
      exact hfu
set_option maxHeartbeats 1000000 in
theorem gp_loop {σ : St} {n : Nat} (hn : n ≤ 16) (e3 : σ 1 3 = nI n) {p0 : Int} (hl : ∀ k, k < n → lawOK (σ (25 + k))) (hd : ∀ s, s < 6 → drumOK (σ (5 + 3 * s)) (σ (6 + 3 * s))) (hkp : ∀ k, k < n → allK (dS σ) (σ (25 + k)) p0) : ∀ (m i : Nat) (v : Int32), i + m = n →
    ∃ r : Int32, (∀ p : Int, 1 ≤ p → p ≤ 60 → (p ≤ r.toInt ↔ p ≤ v.toInt ∧ ∀ k, i ≤ k → k < n → allK (dS σ) (σ (25 + k)) p)) ∧ r.toInt ≤ v.toInt ∧ ∀ (Q : Int32 → St → Prop), Q r σ → ∃ fu, wl_X3_greatestPace_5 Q fu σ v (nI i) := by
  intro m
  induction m with
  | zero =>
    intro i v hi
    have hle : (σ 1 3) ≤ nI i := by rw [e3]; exact nI_le (by omega) (by omega)
    exact ⟨v, fun p p1 p2 => ⟨fun z => ⟨z, fun s h1 h2 => absurd h1 (by omega)⟩, fun z => z.1⟩, Int.le_refl _, fun Q q => ⟨1, ⟨fun _ => q, fun z => absurd hle z⟩⟩⟩
  | succ m ih =>
    intro i v hi
    have hlt : ¬ (σ 1 3) ≤ nI i := by rw [e3]; exact nI_ge (by omega) (by omega)
    obtain ⟨g, hg, hgl, hq⟩ := gp_in (σ := σ) (k := i) (by omega) (hl i (by omega)) hd (hkp i (by omega)) 6 0 v rfl
    obtain ⟨r, hr, hle, he⟩ := ih (i + 1) g (by omega)
    refine ⟨r, fun p p1 p2 => ?_, by omega, fun Q q => ?_⟩
    · rw [hr p p1 p2, hg p p1 p2, ← allK_0]
      constructor
      · intro z
        refine ⟨z.1.1, fun k h1 h2 => ?_⟩
        by_cases y : k = i
        · rw [y]; exact z.1.2
        · exact z.2 k (by omega) h2
      · intro z
        exact ⟨⟨z.1, z.2 i (Nat.le_refl _) (by omega)⟩, fun k h1 h2 => z.2 k (by omega) h2⟩
    · obtain ⟨fu, hfu⟩ := he Q q
      exact ⟨fu + 1, ⟨fun z => absurd z hlt, fun _ => hq Q _ hfu⟩⟩
set_option maxHeartbeats 1000000 in
theorem j_fastest {σ μ : St} (h : RR σ μ) : JJ RR (fun Q => wp_X9_fastest Q σ) (fun Q => wp_X10_fastest Q μ) := by
  have hD := h.2.2.2.2.2.1
  have hD2 := hD
  obtain ⟨n, h1, h2, h3, h4, h5, h6, h7, h8, h9, h10⟩ := hD2
  obtain ⟨r, hr, hle, he⟩ := gp_loop h1 h2 (p0 := (σ 1 4).toInt) (fun k hk => (h9 k hk).2.2.2.2) h8 (fun k hk s hs => h10 k s hk hs) n 0 60 (by omega)
  have t60 : (60 : Int32).toInt = 60 := by decide
  rw [t60] at hr hle
  have hp0 : (σ 1 4).toInt ≤ r.toInt := (hr _ h5 h6).mpr ⟨h6, fun k _ hk s hs => h10 k s hk hs⟩
  obtain ⟨R, eR, bR, fR⟩ := nI_ex (x := r) (by omega)
  -- the reference comes down to it
  have M : ∀ (m : Nat) (Q : Int32 → St → Prop), R + m ≤ 60 → Q r μ → ∃ fu, wl_X10_fastest_3 Q fu μ (nI (R + m)) := by
    intro m
    induction m with
    | zero =>
      intro Q hm q
      have ti : (nI (R + 0)).toInt = (R : Int) := nI_toInt (by omega)
      obtain ⟨n2, b, hn2, e3, g2, g3, g4⟩ := c_bat hD (p := nI (R + 0)) (by rw [ti]; omega) (by rw [ti]; omega)
      have en : n2 = n := by
        have := e3.symm.trans h2
        have := congrArg Int32.toInt this
        rw [nI_toInt (by omega), nI_toInt (by omega)] at this
        omega
      rw [ti] at g2
      rcases g2 with ⟨er, hall⟩ | ⟨k, k1, k2, er, k3, k4⟩
      · refine ⟨1, g4 _ ⟨fun _ => ?_, fun z => absurd (show b < 0 by rw [er]; decide) z⟩⟩
        rw [show nI (R + 0) = r from fR.symm]
        exact q
      · have := (hr (R : Int) (by omega) (by omega)).mp (by omega)
        exact absurd (this.2 k k1 (by omega)) k3
    | succ m ih =>
      intro Q hm q
      have ti : (nI (R + (m + 1))).toInt = ((R + (m + 1) : Nat) : Int) := nI_toInt (by omega)
      obtain ⟨n2, b, hn2, e3, g2, g3, g4⟩ := c_bat hD (p := nI (R + (m + 1))) (by rw [ti]; omega) (by rw [ti]; omega)
      have en : n2 = n := by
        have := e3.symm.trans h2
        have := congrArg Int32.toInt this
        rw [nI_toInt (by omega), nI_toInt (by omega)] at this
        omega
      rw [ti] at g2
      rcases g2 with ⟨er, hall⟩ | ⟨k, k1, k2, er, k3, k4⟩
      · have := (hr ((R + (m + 1) : Nat) : Int) (by omega) (by omega)).mpr ⟨by omega, fun k z1 z2 => hall k z1 (by omega)⟩
        omega
      · have hr0 : ¬ b < 0 := by rw [er]; exact nI_n0 (by omega)
        obtain ⟨fu, hfu⟩ := ih Q (by omega) q
        refine ⟨fu + 1, g4 _ ⟨fun z => absurd z hr0, fun _ x ex => ?_⟩⟩
        subst ex
        have e : nI (R + (m + 1)) + (-1) = nI (R + m) := pk_m1 (R + m)
        rw [e]
        exact hfu
  refine ⟨r, σ, μ, h, fun Q q => he _ q, fun Q q => ?_⟩
  obtain ⟨m, hm⟩ : ∃ m, R + m = 60 := ⟨60 - R, by omega⟩
  have := M m Q (by omega) q
  rw [hm] at this
  exact this
