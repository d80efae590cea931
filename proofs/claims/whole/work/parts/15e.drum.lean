/-! drums: the calls -/
theorem RR_drum {σ μ σ' μ' : St} (h : RR σ μ) (e : ∀ c, c = 0 ∨ 41 ≤ c → σ' c = σ c) (f : ∀ c, 7 ≤ c → μ' c = μ c) (f0 : ∀ k, k ≠ 2 → k ≠ 7 → μ' 0 k = μ 0 k) (hD : rD σ' μ') : RR σ' μ' := by
  have e0 : σ' 0 = σ 0 := e 0 (Or.inl rfl)
  obtain ⟨hG, hS, hM, hO, hB, _, hA⟩ := h
  refine ⟨rG_c (e _ (by omega)) (e _ (by omega)) (e _ (by omega)) (f _ (by omega)) (f _ (by omega)) (f _ (by omega)) hG, ?_, ?_, ?_, ?_, hD, ?_⟩
  · exact rS_c (e _ (by omega)) (by rw [e0]) (by rw [e0]) (by rw [e0]) (by rw [e0]) (by rw [e0]) (by rw [e0]) (f _ (by omega)) (f0 _ (by omega) (by omega)) (f0 _ (by omega) (by omega)) (f0 _ (by omega) (by omega)) (f0 _ (by omega) (by omega)) (f0 _ (by omega) (by omega)) (f0 _ (by omega) (by omega)) hS
  · exact rM_c (e _ (by omega)) (e _ (by omega)) (e _ (by omega)) (e _ (by omega)) (e _ (by omega)) (e _ (by omega)) (f _ (by omega)) (f _ (by omega)) (f _ (by omega)) (f _ (by omega)) (f _ (by omega)) (f _ (by omega)) hM
  · exact rO_c (e _ (by omega)) (e _ (by omega)) (f0 _ (by omega) (by omega)) (f0 _ (by omega) (by omega)) (f _ (by omega)) hO
  · exact rB_c (e _ (by omega)) (fun i h1 h2 => e _ (by omega)) (f0 _ (by omega) (by omega)) (fun i h1 h2 => f _ (by omega)) hB
  · exact rA_c (fun i h1 h2 => e _ (by omega)) (f0 _ (by omega) (by omega)) (fun i h1 h2 => f _ (by omega)) hA
theorem keepsP_c {f g f' g' l : Nat → Int32} {p : Int} (hl : lawOK l) (hf : ∀ a, a < 8 → f' a = f a) (hg : ∀ a, a < 8 → g' a = g a) : keepsP f' g' l p ↔ keepsP f g l p := by
  have ha := vp_lt hl.2.1
  have hb := vp_lt hl.2.2.1
  unfold keepsP doneP lenP
  rw [hf _ ha, hf _ hb, hg _ ha, hg _ hb]
theorem drumOK_c {f g f' g' : Nat → Int32} (hf : ∀ a, a < 8 → f' a = f a) (hg : ∀ a, a < 8 → g' a = g a) (h : drumOK f g) : drumOK f' g' := fun a ha => by
  rw [hf a ha, hg a ha]
  exact h a ha
/-- one section's drum is another one now -/
theorem rD_one {σ μ σ' μ' : St} (h : rD σ μ) {s : Nat} {F G : Nat → Int32} (e1 : σ' 1 = σ 1) (el : ∀ k, 25 ≤ k → k < 41 → σ' k = σ k) (ed : ∀ t, t < 6 → t ≠ s → σ' (5 + 3 * t) = σ (5 + 3 * t) ∧ σ' (6 + 3 * t) = σ (6 + 3 * t)) (eF : ∀ a, a < 8 → σ' (5 + 3 * s) a = F a) (eG : ∀ a, a < 8 → σ' (6 + 3 * s) a = G a)
    (f1 : μ' 0 2 = μ 0 2) (f2 : μ' 0 7 = μ 0 7) (fl : ∀ c, 3 ≤ c → c < 7 → μ' c = μ c) (fF : ∀ a, a < 8 → μ' 1 (8 * s + a) = F a) (fG : ∀ a, a < 8 → μ' 2 (8 * s + a) = G a) (fd : ∀ t a, t < 6 → t ≠ s → a < 8 → μ' 1 (8 * t + a) = μ 1 (8 * t + a) ∧ μ' 2 (8 * t + a) = μ 2 (8 * t + a))
    (hd : drumOK F G) (hk : ∀ n k, σ 1 3 = nI n → n ≤ 16 → k < n → lawOK (σ (25 + k)) → keepsP F G (σ (25 + k)) (σ 1 4).toInt) : rD σ' μ' := by
  obtain ⟨n, h1, h2, h3, h4, h5, h6, h7, h8, h9, h10⟩ := h
  refine ⟨n, h1, by rw [e1]; exact h2, by rw [f1]; exact h3, by rw [e1, f2]; exact h4, by rw [e1]; exact h5, by rw [e1]; exact h6, fun t a ht ha => ?_, fun t ht => ?_, fun k hk2 => ?_, fun k t hk2 ht => ?_⟩
  · by_cases z : t = s
    · rw [z, eF a ha, eG a ha, fF a ha, fG a ha]; exact ⟨rfl, rfl⟩
    · rw [(ed t ht z).1, (ed t ht z).2, (fd t a ht z ha).1, (fd t a ht z ha).2]; exact h7 t a ht ha
  · by_cases z : t = s
    · rw [z]; exact drumOK_c eF eG hd
    · rw [(ed t ht z).1, (ed t ht z).2]; exact h8 t ht
  · rw [el (25 + k) (by omega) (by omega), fl 3 (by omega) (by omega), fl 4 (by omega) (by omega), fl 5 (by omega) (by omega), fl 6 (by omega) (by omega)]
    exact h9 k hk2
  · rw [el (25 + k) (by omega) (by omega), e1]
    by_cases z : t = s
    · rw [z]
      exact (keepsP_c (h9 k hk2).2.2.2.2 eF eG).mpr (hk n k h2 h1 hk2 (h9 k hk2).2.2.2.2)
    · rw [(ed t ht z).1, (ed t ht z).2]; exact h10 k t hk2 ht
theorem deg_of {x : Int32} (h : vp_in x 360) : deg x := by
  rw [vp_in_iff] at h
  unfold deg
  omega
set_option maxHeartbeats 1000000 in
theorem c_set (a b c d : Int32) : (vp_in a 6 ∧ vp_in b 8 ∧ deg c ∧ deg d ∧ c ≠ d ∧ (∀ (Q : Int32 → St → Prop) (σ : St), Q 1 σ → wp_X9_isSetting Q a b c d σ) ∧ (∀ (Q : Int32 → St → Prop) (σ : St), Q 1 σ → wp_X10_maySet Q a b c d σ)) ∨ ((∀ (Q : Int32 → St → Prop) (σ : St), Q 0 σ → wp_X9_isSetting Q a b c d σ) ∧ (∀ (Q : Int32 → St → Prop) (σ : St), Q 0 σ → wp_X10_maySet Q a b c d σ)) := by
  rcases c_sec a with ⟨ha, hc, hm⟩ | ⟨hc, hm⟩
  · rcases c_act b with ⟨hb, hc2, hm2⟩ | ⟨hc2, hm2⟩
    · rcases c_deg c with ⟨h3, hc3, hm3⟩ | ⟨hc3, hm3⟩
      · rcases c_deg d with ⟨h4, hc4, hm4⟩ | ⟨hc4, hm4⟩
        · by_cases e : c = d
          · exact Or.inr ⟨fun Q σ q => hc _ _ ⟨fun z => absurd z (by decide), fun _ => hc2 _ _ ⟨fun z => absurd z (by decide), fun _ => hc3 _ _ ⟨fun z => absurd z (by decide), fun _ => hc4 _ _ ⟨fun z => absurd z (by decide), fun _ => ⟨fun _ => q, fun z => absurd e z⟩⟩⟩⟩⟩, fun Q σ q => hm _ _ ⟨fun z => absurd z (by decide), fun _ => hm2 _ _ ⟨fun z => absurd z (by decide), fun _ => hm3 _ _ ⟨fun z => absurd z (by decide), fun _ => hm4 _ _ ⟨fun z => absurd z (by decide), fun _ => ⟨fun _ => q, fun z => absurd e z⟩⟩⟩⟩⟩⟩
          · exact Or.inl ⟨ha, hb, deg_of h3, deg_of h4, e, fun Q σ q => hc _ _ ⟨fun z => absurd z (by decide), fun _ => hc2 _ _ ⟨fun z => absurd z (by decide), fun _ => hc3 _ _ ⟨fun z => absurd z (by decide), fun _ => hc4 _ _ ⟨fun z => absurd z (by decide), fun _ => ⟨fun z => absurd z e, fun _ => q⟩⟩⟩⟩⟩, fun Q σ q => hm _ _ ⟨fun z => absurd z (by decide), fun _ => hm2 _ _ ⟨fun z => absurd z (by decide), fun _ => hm3 _ _ ⟨fun z => absurd z (by decide), fun _ => hm4 _ _ ⟨fun z => absurd z (by decide), fun _ => ⟨fun z => absurd z e, fun _ => q⟩⟩⟩⟩⟩⟩
        · exact Or.inr ⟨fun Q σ q => hc _ _ ⟨fun z => absurd z (by decide), fun _ => hc2 _ _ ⟨fun z => absurd z (by decide), fun _ => hc3 _ _ ⟨fun z => absurd z (by decide), fun _ => hc4 _ _ ⟨fun _ => q, fun z => absurd rfl z⟩⟩⟩⟩, fun Q σ q => hm _ _ ⟨fun z => absurd z (by decide), fun _ => hm2 _ _ ⟨fun z => absurd z (by decide), fun _ => hm3 _ _ ⟨fun z => absurd z (by decide), fun _ => hm4 _ _ ⟨fun _ => q, fun z => absurd rfl z⟩⟩⟩⟩⟩
      · exact Or.inr ⟨fun Q σ q => hc _ _ ⟨fun z => absurd z (by decide), fun _ => hc2 _ _ ⟨fun z => absurd z (by decide), fun _ => hc3 _ _ ⟨fun _ => q, fun z => absurd rfl z⟩⟩⟩, fun Q σ q => hm _ _ ⟨fun z => absurd z (by decide), fun _ => hm2 _ _ ⟨fun z => absurd z (by decide), fun _ => hm3 _ _ ⟨fun _ => q, fun z => absurd rfl z⟩⟩⟩⟩
    · exact Or.inr ⟨fun Q σ q => hc _ _ ⟨fun z => absurd z (by decide), fun _ => hc2 _ _ ⟨fun _ => q, fun z => absurd rfl z⟩⟩, fun Q σ q => hm _ _ ⟨fun z => absurd z (by decide), fun _ => hm2 _ _ ⟨fun _ => q, fun z => absurd rfl z⟩⟩⟩
  · exact Or.inr ⟨fun Q σ q => hc _ _ ⟨fun _ => q, fun z => absurd rfl z⟩, fun Q σ q => hm _ _ ⟨fun _ => q, fun z => absurd rfl z⟩⟩
theorem drum_upd {f g : Nat → Int32} (h : drumOK f g) {k : Nat} {c d : Int32} (hc : deg c) (hd : deg d) (hne : c ≠ d) : drumOK (upd f k c) (upd g k d) := fun a ha => by
  by_cases z : a = k
  · rw [z, upd_eq, upd_eq]; exact ⟨hc, hd, hne⟩
  · rw [upd_ne z, upd_ne z]; exact h a ha
set_option maxHeartbeats 1000000 in
theorem bif_c {σ : St} {n s : Nat} (hs : s < 6) (hn : n ≤ 16) (e3 : σ 1 3 = nI n) (p1 : 1 ≤ (σ 1 4).toInt) (p2 : (σ 1 4).toInt ≤ 60) (hl : ∀ k, k < n → lawOK (σ (25 + k))) (hd : drumOK (σ (5 + 3 * s)) (σ (6 + 3 * s))) {b c d : Int32} (hb : vp_in b 8) (hc : deg c) (hd2 : deg d) (hne : c ≠ d) :
    ∃ (r : Int32) (σ' : St), (∀ i, i ≠ 23 → i ≠ 24 → σ' i = σ i) ∧ firstBad (fun k => keepsP (upd (σ (5 + 3 * s)) b.toNatClampNeg c) (upd (σ (6 + 3 * s)) b.toNatClampNeg d) (σ (25 + k)) (σ 1 4).toInt) 0 n r ∧ ∀ Q : Int32 → St → Prop, Q r σ' → wp_X3_brokenIf Q (nI s) b c d σ := by
  obtain ⟨σ1, g1, g2, g3, g4⟩ := become_c (o0 := 22) (o1 := 4 + 3 * s) (by omega) (by omega) 8 0 σ rfl
  have e1 : 4 + 3 * s + 1 = 5 + 3 * s := by omega
  have e2 : 4 + 3 * s + 2 = 6 + 3 * s := by omega
  rw [e1] at g2
  rw [e2] at g3
  have cs : (nI s).toNatClampNeg = s := nI_clamp (by omega)
  have vs : vp_in (nI s) 6 := vp_in_nI hs (by decide)
  have F : ∀ i, i ≠ 23 → i ≠ 24 → up2 (up2 σ1 23 b.toNatClampNeg c) 24 b.toNatClampNeg d i = σ i := fun i h1 h2 => by rw [up2_ne h2, up2_ne h1, g1 i h1 h2]
  have F1 := F 1 (by omega) (by omega)
  have fF : ∀ a, a < 8 → up2 (up2 σ1 23 b.toNatClampNeg c) 24 b.toNatClampNeg d 23 a = upd (σ (5 + 3 * s)) b.toNatClampNeg c a := fun a ha => by
    show upd (σ1 23) b.toNatClampNeg c a = _
    by_cases z : a = b.toNatClampNeg
    · rw [z, upd_eq, upd_eq]
    · rw [upd_ne z, upd_ne z]
      have := g2 a ha
      rw [if_pos (Nat.zero_le _)] at this
      exact this
  have fG : ∀ a, a < 8 → up2 (up2 σ1 23 b.toNatClampNeg c) 24 b.toNatClampNeg d 24 a = upd (σ (6 + 3 * s)) b.toNatClampNeg d a := fun a ha => by
    show upd (σ1 24) b.toNatClampNeg d a = _
    by_cases z : a = b.toNatClampNeg
    · rw [z, upd_eq, upd_eq]
    · rw [upd_ne z, upd_ne z]
      have := g3 a ha
      rw [if_pos (Nat.zero_le _)] at this
      exact this
  obtain ⟨r, hr, he⟩ := bif_loop (σ := up2 (up2 σ1 23 b.toNatClampNeg c) 24 b.toNatClampNeg d) hn (by rw [F1]; exact e3) (by rw [F1]; exact p1) (by rw [F1]; exact p2) (fun k hk => by rw [F _ (by omega) (by omega)]; exact hl k hk) (drumOK_c fF fG (drum_upd hd hc hd2 hne)) n 0 (by omega)
  refine ⟨r, _, F, ?_, fun Q q => ⟨vs, ?_⟩⟩
  · have hiff : ∀ k, k < n → (keepsP (up2 (up2 σ1 23 b.toNatClampNeg c) 24 b.toNatClampNeg d 23) (up2 (up2 σ1 23 b.toNatClampNeg c) 24 b.toNatClampNeg d 24) (up2 (up2 σ1 23 b.toNatClampNeg c) 24 b.toNatClampNeg d (25 + k)) (up2 (up2 σ1 23 b.toNatClampNeg c) 24 b.toNatClampNeg d 1 4).toInt ↔ keepsP (upd (σ (5 + 3 * s)) b.toNatClampNeg c) (upd (σ (6 + 3 * s)) b.toNatClampNeg d) (σ (25 + k)) (σ 1 4).toInt) := fun k hk => by
      rw [F1, F (25 + k) (by omega) (by omega)]
      exact keepsP_c (hl k hk) fF fG
    rcases hr with ⟨e, h2⟩ | ⟨k, k1, k2, e, k3, k4⟩
    · exact Or.inl ⟨e, fun k h3 h4 => (hiff k h4).mp (h2 k h3 h4)⟩
    · exact Or.inr ⟨k, k1, k2, e, fun z => k3 ((hiff k k2).mpr z), fun j h3 h4 => (hiff j (by omega)).mp (k4 j h3 h4)⟩
  · rw [cs]
    refine g4 _ ⟨hb, fun x ex => ⟨hb, fun y ey => ?_⟩⟩
    subst ey; subst ex
    exact he Q q
theorem rest2 {μ : St} {k : Nat} {c d : Int32} : up2 (up2 (up2 (up2 μ 1 k c) 2 k d) 1 k (μ 1 k)) 2 k (μ 2 k) = μ := by
  funext i j
  unfold up2 upd
  by_cases h1 : i = 1
  · subst h1
    by_cases h2 : j = k
    · subst h2; simp
    · simp [h2]
  · by_cases h3 : i = 2
    · subst h3
      by_cases h2 : j = k
      · subst h2; simp
      · simp [h2]
    · simp [h1, h3]
/-- both sides try a setting -/
theorem c_try {σ μ : St} (h : rD σ μ) {s : Nat} (hs : s < 6) {b c d : Int32} (hb : vp_in b 8) (hc : deg c) (hd : deg d) (hne : c ≠ d) : ∃ (n : Nat) (r : Int32) (σ' : St), n ≤ 16 ∧ σ 1 3 = nI n ∧ (∀ i, i ≠ 23 → i ≠ 24 → σ' i = σ i) ∧ firstBad (fun k => keepsP (upd (σ (5 + 3 * s)) b.toNatClampNeg c) (upd (σ (6 + 3 * s)) b.toNatClampNeg d) (σ (25 + k)) (σ 1 4).toInt) 0 n r ∧ (∀ Q : Int32 → St → Prop, Q r σ' → wp_X3_brokenIf Q (nI s) b c d σ) ∧
    (∀ Q : Int32 → St → Prop, Q r (up2 (up2 μ 1 (8 * s + b.toNatClampNeg) c) 2 (8 * s + b.toNatClampNeg) d) → wp_X10_brokenBy Q (nI s) (up2 (up2 μ 1 (8 * s + b.toNatClampNeg) c) 2 (8 * s + b.toNatClampNeg) d)) := by
  obtain ⟨n, h1, h2, h3, h4, h5, h6, h7, h8, h9, h10⟩ := h
  obtain ⟨r, σ', g1, g2, g3⟩ := bif_c hs h1 h2 h5 h6 (fun k hk => (h9 k hk).2.2.2.2) (h8 s hs) hb hc hd hne
  have hbb := vp_lt hb
  obtain ⟨r2, q1, q2⟩ := bby_loop (μ := up2 (up2 μ 1 (8 * s + b.toNatClampNeg) c) 2 (8 * s + b.toNatClampNeg) d) (n := n) (s := s) (f := upd (σ (5 + 3 * s)) b.toNatClampNeg c) (g := upd (σ (6 + 3 * s)) b.toNatClampNeg d) (l := fun k => σ (25 + k)) hs h1 h3 (by show 1 ≤ (μ 0 7).toInt; rw [← h4]; exact h5) (by show (μ 0 7).toInt ≤ 60; rw [← h4]; exact h6) (fun k hk => ⟨(h9 k hk).1.symm, (h9 k hk).2.1.symm, (h9 k hk).2.2.1.symm, (h9 k hk).2.2.2.1.symm, (h9 k hk).2.2.2.2⟩) (fun a ha => by
    show upd (μ 1) (8 * s + b.toNatClampNeg) c (8 * s + a) = _
    by_cases z : a = b.toNatClampNeg
    · rw [z, upd_eq, upd_eq]
    · rw [upd_ne (by omega), upd_ne z]; exact (h7 s a hs ha).1.symm) (fun a ha => by
    show upd (μ 2) (8 * s + b.toNatClampNeg) d (8 * s + a) = _
    by_cases z : a = b.toNatClampNeg
    · rw [z, upd_eq, upd_eq]
    · rw [upd_ne (by omega), upd_ne z]; exact (h7 s a hs ha).2.symm) (drum_upd (h8 s hs) hc hd hne) n 0 (by omega)
  have e7 : up2 (up2 μ 1 (8 * s + b.toNatClampNeg) c) 2 (8 * s + b.toNatClampNeg) d 0 7 = σ 1 4 := h4.symm
  rw [e7] at q1
  have er := fb_uniq g2 q1
  exact ⟨n, r, σ', h1, h2, g1, g2, g3, fun Q q => by rw [er] at q; exact q2 Q q⟩
set_option maxHeartbeats 1000000 in
theorem j_set {σ μ : St} (h : RR σ μ) (a b c d : Int32) : JJ RR (fun Q => wp_X9_set Q a b c d σ) (fun Q => wp_X10_set Q a b c d μ) := by
  rcases c_set a b c d with ⟨ha, hb, hc, hd, hne, kc, km⟩ | ⟨kc, km⟩
  · obtain ⟨s, hs, ea⟩ := vp_in_of ha (by decide)
    have ea := ea.symm
    subst ea
    have hD := h.2.2.2.2.2.1
    obtain ⟨n, r, σ', hn, e3, g1, g2, g3, g4⟩ := c_try hD hs hb hc hd hne
    obtain ⟨x1, x2, x3⟩ := idx8 hs hb
    have cs : (nI s).toNatClampNeg = s := nI_clamp (by omega)
    have hbb := vp_lt hb
    have e1 : 4 + 3 * s + 1 = 5 + 3 * s := by omega
    have e2 : 4 + 3 * s + 2 = 6 + 3 * s := by omega
    rcases g2 with ⟨er, hall⟩ | ⟨k, k1, k2, er, k3, k4⟩
    · refine ⟨1, up2 (up2 σ' (5 + 3 * s) b.toNatClampNeg c) (6 + 3 * s) b.toNatClampNeg d, up2 (up2 μ 1 (8 * s + b.toNatClampNeg) c) 2 (8 * s + b.toNatClampNeg) d, RR_drum h (fun i hi => by rw [up2_ne (by omega), up2_ne (by omega), g1 i (by omega) (by omega)]) (fun i hi => by rw [up2_ne (by omega), up2_ne (by omega)]) (fun _ _ _ => rfl) ?_, fun Q q => ?_, fun Q q => ?_⟩
      · refine rD_one hD (s := s) (F := upd (σ (5 + 3 * s)) b.toNatClampNeg c) (G := upd (σ (6 + 3 * s)) b.toNatClampNeg d) (by rw [up2_ne (by omega), up2_ne (by omega), g1 1 (by omega) (by omega)]) (fun i h1 h2 => by rw [up2_ne (by omega), up2_ne (by omega), g1 i (by omega) (by omega)]) (fun t ht hts => ?_) (fun x hx => ?_) (fun x hx => ?_) rfl rfl (fun i h1 h2 => by rw [up2_ne (by omega), up2_ne (by omega)]) (fun x hx => ?_) (fun x hx => ?_) (fun t x ht hts hx => ?_) (drum_upd (by obtain ⟨n, h1, h2, h3, h4, h5, h6, h7, h8, h9, h10⟩ := hD; exact h8 s hs) hc hd hne) (fun n2 k e3' hn2 hk _ => ?_)
        · rw [up2_ne (by omega), up2_ne (by omega), g1 (5 + 3 * t) (by omega) (by omega), up2_ne (by omega), up2_ne (by omega), g1 (6 + 3 * t) (by omega) (by omega)]; exact ⟨rfl, rfl⟩
        · rw [up2_ne (by omega), up2_eq, g1 (5 + 3 * s) (by omega) (by omega)]
        · rw [up2_eq, up2_ne (by omega), g1 (6 + 3 * s) (by omega) (by omega)]
        · show upd (μ 1) (8 * s + b.toNatClampNeg) c (8 * s + x) = _
          obtain ⟨n, h1, h2, h3, h4, h5, h6, h7, h8, h9, h10⟩ := hD
          by_cases z : x = b.toNatClampNeg
          · rw [z, upd_eq, upd_eq]
          · rw [upd_ne (by omega), upd_ne z]; exact (h7 s x hs hx).1.symm
        · show upd (μ 2) (8 * s + b.toNatClampNeg) d (8 * s + x) = _
          obtain ⟨n, h1, h2, h3, h4, h5, h6, h7, h8, h9, h10⟩ := hD
          by_cases z : x = b.toNatClampNeg
          · rw [z, upd_eq, upd_eq]
          · rw [upd_ne (by omega), upd_ne z]; exact (h7 s x hs hx).2.symm
        · show upd (μ 1) (8 * s + b.toNatClampNeg) c (8 * t + x) = _ ∧ upd (μ 2) (8 * s + b.toNatClampNeg) d (8 * t + x) = _
          rw [upd_ne (by omega), upd_ne (by omega)]; exact ⟨rfl, rfl⟩
        · have en : n2 = n := by
            have := e3'.symm.trans e3
            have := congrArg Int32.toInt this
            rw [nI_toInt (by omega), nI_toInt (by omega)] at this
            omega
          exact hall k (Nat.zero_le _) (by omega)
      · refine kc _ _ ⟨fun _ => g3 _ ⟨fun _ => ⟨ha, ?_⟩, fun z => absurd er z⟩, fun z => absurd z (by decide)⟩
        rw [cs]
        refine ⟨hb, fun x ex => ⟨hb, fun y ey => ?_⟩⟩
        subst ey; subst ex
        rw [e1, e2]
        exact q
      · refine km _ _ ⟨fun _ x ex => ⟨?_, fun w1 ew1 => ⟨?_, fun w2 ew2 => ⟨?_, fun y ey => ⟨?_, fun w ew => ?_⟩⟩⟩⟩, fun z => absurd z (by decide)⟩
        · rw [ex]; exact x2
        · rw [ex]; exact x2
        · rw [ex]; exact x2
        · rw [ex]; exact x2
        · subst ew; subst ey; subst ex
          rw [x3]
          exact g4 _ ⟨fun _ => q, fun z => absurd (show r < 0 by rw [er]; decide) z⟩
    · have hr1 : ¬ r = -1 := by rw [er]; exact nI_nm1 (by omega)
      have hr0 : ¬ r < 0 := by rw [er]; exact nI_n0 (by omega)
      refine ⟨-100 - r, σ', μ, RR_drum h (fun i hi => g1 i (by omega) (by omega)) (fun _ _ => rfl) (fun _ _ _ => rfl) (rD_c (fun i h1 h2 h3 h4 h5 => g1 i h4 h5) rfl rfl (fun _ _ _ => rfl) hD), fun Q q => ?_, fun Q q => ?_⟩
      · exact kc _ _ ⟨fun _ => g3 _ ⟨fun z => absurd z hr1, fun _ => q⟩, fun z => absurd z (by decide)⟩
      · refine km _ _ ⟨fun _ x ex => ⟨?_, fun w1 ew1 => ⟨?_, fun w2 ew2 => ⟨?_, fun y ey => ⟨?_, fun w ew => ?_⟩⟩⟩⟩, fun z => absurd z (by decide)⟩
        · rw [ex]; exact x2
        · rw [ex]; exact x2
        · rw [ex]; exact x2
        · rw [ex]; exact x2
        · subst ew; subst ey; subst ew2; subst ew1; subst ex
          rw [x3]
          refine g4 _ ⟨fun z => absurd z hr0, fun _ => ⟨x2, fun u eu => ⟨x2, fun v ev => ?_⟩⟩⟩
          subst ev; subst eu
          rw [rest2]
          exact q
  · exact ⟨-1, σ, μ, h, fun Q q => kc _ _ ⟨fun z => absurd rfl z, fun _ => q⟩, fun Q q => km _ _ ⟨fun z => absurd rfl z, fun _ => q⟩⟩
set_option maxHeartbeats 1000000 in
theorem j_would {σ μ : St} (h : RR σ μ) (a b c d : Int32) : JJ RR (fun Q => wp_X9_would Q a b c d σ) (fun Q => wp_X10_would Q a b c d μ) := by
  rcases c_set a b c d with ⟨ha, hb, hc, hd, hne, kc, km⟩ | ⟨kc, km⟩
  · obtain ⟨s, hs, ea⟩ := vp_in_of ha (by decide)
    have ea := ea.symm
    subst ea
    have hD := h.2.2.2.2.2.1
    obtain ⟨n, r, σ', hn, e3, g1, g2, g3, g4⟩ := c_try hD hs hb hc hd hne
    obtain ⟨x1, x2, x3⟩ := idx8 hs hb
    refine ⟨1 + r, σ', μ, RR_drum h (fun i hi => g1 i (by omega) (by omega)) (fun _ _ => rfl) (fun _ _ _ => rfl) (rD_c (fun i h1 h2 h3 h4 h5 => g1 i h4 h5) rfl rfl (fun _ _ _ => rfl) hD), fun Q q => ?_, fun Q q => ?_⟩
    · refine kc _ _ ⟨fun _ => g3 _ ⟨fun _ => q, fun z => ?_⟩, fun z => absurd z (by decide)⟩
      rw [z] at q
      exact q
    · refine km _ _ ⟨fun _ x ex => ⟨?_, fun w1 ew1 => ⟨?_, fun w2 ew2 => ⟨?_, fun y ey => ⟨?_, fun w ew => ?_⟩⟩⟩⟩, fun z => absurd z (by decide)⟩
      · rw [ex]; exact x2
      · rw [ex]; exact x2
      · rw [ex]; exact x2
      · rw [ex]; exact x2
      · subst ew; subst ey; subst ew2; subst ew1; subst ex
        rw [x3]
        refine g4 _ ⟨x2, fun u eu => ⟨x2, fun v ev => ?_⟩⟩
        subst ev; subst eu
        rw [rest2]
        exact q
  · exact ⟨-1, σ, μ, h, fun Q q => kc _ _ ⟨fun z => absurd rfl z, fun _ => q⟩, fun Q q => km _ _ ⟨fun z => absurd rfl z, fun _ => q⟩⟩
