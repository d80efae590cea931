/-! drums: turn, copy, repeal, pace, act -/
theorem keeps_shift {f g f' g' l : Nat → Int32} {p y : Int} (hl : lawOK l) (hd : drumOK f g) (hd' : drumOK f' g') (hf : ∀ a, a < 8 → (f' a).toInt = ((f a).toInt + y) % 360) (hg : ∀ a, a < 8 → (g' a).toInt = ((g a).toInt + y) % 360) (h : keepsP f g l p) : keepsP f' g' l p := by
  have ha := vp_lt hl.2.1
  have hb := vp_lt hl.2.2.1
  have f1 := hf _ ha
  have f2 := hf _ hb
  have g1 := hg _ ha
  have g2 := hg _ hb
  have la : lenP f' g' (l 1).toNatClampNeg = lenP f g (l 1).toNatClampNeg := by
    unfold lenP
    rw [f1, g1]
    omega
  have lb : lenP f' g' (l 2).toNatClampNeg = lenP f g (l 2).toNatClampNeg := by
    unfold lenP
    rw [f2, g2]
    omega
  rcases kind4 hl.1 with k | k | k | k
  · rw [kp0 k] at h ⊢
    rw [f2, g1]
    omega
  · rw [kp1 k, apart_iff hd ha hb] at h
    rw [kp1 k, apart_iff hd' ha hb]
    unfold doneP at h ⊢
    rw [la, lb, f1, f2]
    omega
  · rw [kp2 k] at h ⊢
    rw [la]
    exact h
  · rw [kp3 k, within_iff hd ha hb] at h
    rw [kp3 k, within_iff hd' ha hb]
    rw [la, lb, f1, f2]
    omega
set_option maxHeartbeats 1000000 in
theorem j_turn {σ μ : St} (h : RR σ μ) (a b : Int32) : JJ RR (fun Q => wp_X9_turn Q a b σ) (fun Q => wp_X10_turn Q a b μ) := by
  rcases c_sec a with ⟨ha, hc, hm⟩ | ⟨hc, hm⟩
  · rcases c_btw b (-359) 359 with ⟨h1, h2, hc2, hm2⟩ | ⟨hb, hc2, hm2⟩
    · obtain ⟨s, hs, ea⟩ := vp_in_of ha (by decide)
      have ea := ea.symm
      subst ea
      have hr : -359 ≤ b.toInt ∧ b.toInt ≤ 359 := rng h1 h2
      have hD := h.2.2.2.2.2.1
      have hdr : drumOK (σ (5 + 3 * s)) (σ (6 + 3 * s)) := by
        obtain ⟨n, h1, h2, h3, h4, h5, h6, h7, h8, h9, h10⟩ := hD
        exact h8 s hs
      have hst : ∀ a, a < 8 → σ (5 + 3 * s) a = μ 1 (8 * s + a) ∧ σ (6 + 3 * s) a = μ 2 (8 * s + a) := by
        obtain ⟨n, h1, h2, h3, h4, h5, h6, h7, h8, h9, h10⟩ := hD
        exact fun a ha => h7 s a hs ha
      have hkp : ∀ n k, σ 1 3 = nI n → n ≤ 16 → k < n → keepsP (σ (5 + 3 * s)) (σ (6 + 3 * s)) (σ (25 + k)) (σ 1 4).toInt := by
        obtain ⟨n, h1, h2, h3, h4, h5, h6, h7, h8, h9, h10⟩ := hD
        intro n2 k e3' hn2 hk
        have en : n2 = n := by
          have := e3'.symm.trans h2
          have := congrArg Int32.toInt this
          rw [nI_toInt (by omega), nI_toInt (by omega)] at this
          omega
        exact h10 k s (by omega) hs
      have cs : (nI s).toNatClampNeg = s := nI_clamp (by omega)
      have e1 : 4 + 3 * s + 1 = 5 + 3 * s := by omega
      have e2 : 4 + 3 * s + 2 = 6 + 3 * s := by omega
      obtain ⟨σ', g1, g2, g3, g4⟩ := shift_c (o0 := 4 + 3 * s) hr.1 hr.2 8 0 σ rfl (fun j hj => by rw [e1, e2]; exact ⟨(hdr j hj).1, (hdr j hj).2.1⟩)
      obtain ⟨μ', k1, k2, k3, k4⟩ := turn_m (y := b) hs 8 0 μ rfl
      rw [e1] at g1 g2
      rw [e2] at g1 g3
      have hF : ∀ x, x < 8 → (trn (σ (5 + 3 * s) x) b).toInt = ((σ (5 + 3 * s) x).toInt + b.toInt) % 360 := fun x hx => trn_ti (hdr x hx).1 hr.1 hr.2
      have hG : ∀ x, x < 8 → (trn (σ (6 + 3 * s) x) b).toInt = ((σ (6 + 3 * s) x).toInt + b.toInt) % 360 := fun x hx => trn_ti (hdr x hx).2.1 hr.1 hr.2
      have hdn : drumOK (fun x => trn (σ (5 + 3 * s) x) b) (fun x => trn (σ (6 + 3 * s) x) b) := fun x hx => by
        refine ⟨trn_deg (hdr x hx).1 hr.1 hr.2, trn_deg (hdr x hx).2.1 hr.1 hr.2, fun z => ?_⟩
        have z2 := congrArg Int32.toInt z
        rw [hF x hx, hG x hx] at z2
        obtain ⟨d1, d2, d3⟩ := hdr x hx
        unfold deg at d1 d2
        exact d3 (Int32.toInt_inj.mp (by omega))
      refine ⟨1, σ', μ', RR_drum h (fun i hi => g1 i (by omega) (by omega)) (fun i hi => k1 i (by omega) (by omega)) (fun i _ _ => by rw [k1 0 (by omega) (by omega)]) ?_, fun Q q => ?_, fun Q q => ?_⟩
      · refine rD_one hD (s := s) (F := fun x => trn (σ (5 + 3 * s) x) b) (G := fun x => trn (σ (6 + 3 * s) x) b) (g1 1 (by omega) (by omega)) (fun i h1 h2 => g1 i (by omega) (by omega)) (fun t ht hts => ⟨g1 _ (by omega) (by omega), g1 _ (by omega) (by omega)⟩) (fun x hx => ?_) (fun x hx => ?_) (by rw [k1 0 (by omega) (by omega)]) (by rw [k1 0 (by omega) (by omega)]) (fun i h1 h2 => k1 i (by omega) (by omega)) (fun x hx => ?_) (fun x hx => ?_) (fun t x ht hts hx => ?_) hdn (fun n2 k e3' hn2 hk hl => ?_)
        · rw [g2 x hx, if_pos (Nat.zero_le _)]
        · rw [g3 x hx, if_pos (Nat.zero_le _)]
        · rw [k2, if_pos (by omega), ← (hst x hx).1]
        · rw [k3, if_pos (by omega), ← (hst x hx).2]
        · rw [k2, k3, if_neg (by omega), if_neg (by omega)]; exact ⟨rfl, rfl⟩
        · exact keeps_shift hl hdr hdn hF hG (hkp n2 k e3' hn2 hk)
      · refine hc _ _ ⟨fun z => absurd z (by decide), fun _ => hc2 _ _ ⟨fun _ => ⟨ha, ?_⟩, fun z => absurd z (by decide)⟩⟩
        rw [cs]
        exact g4 _ q
      · exact hm _ _ ⟨fun z => absurd z (by decide), fun _ => hm2 _ _ ⟨fun _ => k4 Q q, fun z => absurd z (by decide)⟩⟩
    · exact ⟨-1, σ, μ, h, fun Q q => hc _ _ ⟨fun z => absurd z (by decide), fun _ => hc2 _ _ ⟨fun z => absurd rfl z, fun _ => q⟩⟩, fun Q q => hm _ _ ⟨fun z => absurd z (by decide), fun _ => hm2 _ _ ⟨fun z => absurd rfl z, fun _ => q⟩⟩⟩
  · exact ⟨-1, σ, μ, h, fun Q q => hc _ _ ⟨fun _ => q, fun z => absurd rfl z⟩, fun Q q => hm _ _ ⟨fun _ => q, fun z => absurd rfl z⟩⟩
set_option maxHeartbeats 1000000 in
theorem j_copy {σ μ : St} (h : RR σ μ) (a b : Int32) : JJ RR (fun Q => wp_X9_copy Q a b σ) (fun Q => wp_X10_copy Q a b μ) := by
  rcases c_sec a with ⟨ha, hc, hm⟩ | ⟨hc, hm⟩
  · rcases c_sec b with ⟨hb, hc2, hm2⟩ | ⟨hc2, hm2⟩
    · obtain ⟨s, hs, ea⟩ := vp_in_of ha (by decide)
      have ea := ea.symm
      subst ea
      obtain ⟨t, ht, eb⟩ := vp_in_of hb (by decide)
      have eb := eb.symm
      subst eb
      have hD := h.2.2.2.2.2.1
      have hdr : drumOK (σ (5 + 3 * t)) (σ (6 + 3 * t)) := by
        obtain ⟨n, h1, h2, h3, h4, h5, h6, h7, h8, h9, h10⟩ := hD
        exact h8 t ht
      have hst : ∀ a, a < 8 → σ (5 + 3 * t) a = μ 1 (8 * t + a) ∧ σ (6 + 3 * t) a = μ 2 (8 * t + a) := by
        obtain ⟨n, h1, h2, h3, h4, h5, h6, h7, h8, h9, h10⟩ := hD
        exact fun a ha => h7 t a ht ha
      have hkp : ∀ n k, σ 1 3 = nI n → n ≤ 16 → k < n → keepsP (σ (5 + 3 * t)) (σ (6 + 3 * t)) (σ (25 + k)) (σ 1 4).toInt := by
        obtain ⟨n, h1, h2, h3, h4, h5, h6, h7, h8, h9, h10⟩ := hD
        intro n2 k e3' hn2 hk
        have en : n2 = n := by
          have := e3'.symm.trans h2
          have := congrArg Int32.toInt this
          rw [nI_toInt (by omega), nI_toInt (by omega)] at this
          omega
        exact h10 k t (by omega) ht
      have cs : (nI s).toNatClampNeg = s := nI_clamp (by omega)
      have ct : (nI t).toNatClampNeg = t := nI_clamp (by omega)
      have e1 : 4 + 3 * s + 1 = 5 + 3 * s := by omega
      have e2 : 4 + 3 * s + 2 = 6 + 3 * s := by omega
      have f1 : 4 + 3 * t + 1 = 5 + 3 * t := by omega
      have f2 : 4 + 3 * t + 2 = 6 + 3 * t := by omega
      obtain ⟨σ', g1, g2, g3, g4⟩ := become_c (o0 := 4 + 3 * s) (o1 := 4 + 3 * t) (by omega) (by omega) 8 0 σ rfl
      obtain ⟨μ', k1, k2, k3, k4⟩ := copy_m hs ht 8 0 μ rfl
      rw [e1] at g1 g2
      rw [e2] at g1 g3
      rw [f1] at g2
      rw [f2] at g3
      refine ⟨1, σ', μ', RR_drum h (fun i hi => g1 i (by omega) (by omega)) (fun i hi => k1 i (by omega) (by omega)) (fun i _ _ => by rw [k1 0 (by omega) (by omega)]) ?_, fun Q q => ?_, fun Q q => ?_⟩
      · refine rD_one hD (s := s) (F := σ (5 + 3 * t)) (G := σ (6 + 3 * t)) (g1 1 (by omega) (by omega)) (fun i h1 h2 => g1 i (by omega) (by omega)) (fun t ht hts => ⟨g1 _ (by omega) (by omega), g1 _ (by omega) (by omega)⟩) (fun x hx => ?_) (fun x hx => ?_) (by rw [k1 0 (by omega) (by omega)]) (by rw [k1 0 (by omega) (by omega)]) (fun i h1 h2 => k1 i (by omega) (by omega)) (fun x hx => ?_) (fun x hx => ?_) (fun t x ht hts hx => ?_) hdr (fun n2 k e3' hn2 hk hl => hkp n2 k e3' hn2 hk)
        · rw [g2 x hx, if_pos (Nat.zero_le _)]
        · rw [g3 x hx, if_pos (Nat.zero_le _)]
        · rw [k2, if_pos (by omega), (hst x hx).1, show 8 * s + x - 8 * s + 8 * t = 8 * t + x from by omega]
        · rw [k3, if_pos (by omega), (hst x hx).2, show 8 * s + x - 8 * s + 8 * t = 8 * t + x from by omega]
        · rw [k2, k3, if_neg (by omega), if_neg (by omega)]; exact ⟨rfl, rfl⟩
      · refine hc _ _ ⟨fun z => absurd z (by decide), fun _ => hc2 _ _ ⟨fun _ => ⟨ha, hb, ?_⟩, fun z => absurd z (by decide)⟩⟩
        rw [cs, ct]
        exact g4 _ q
      · exact hm _ _ ⟨fun z => absurd z (by decide), fun _ => hm2 _ _ ⟨fun _ => k4 Q q, fun z => absurd z (by decide)⟩⟩
    · exact ⟨-1, σ, μ, h, fun Q q => hc _ _ ⟨fun z => absurd z (by decide), fun _ => hc2 _ _ ⟨fun z => absurd rfl z, fun _ => q⟩⟩, fun Q q => hm _ _ ⟨fun z => absurd z (by decide), fun _ => hm2 _ _ ⟨fun z => absurd rfl z, fun _ => q⟩⟩⟩
  · exact ⟨-1, σ, μ, h, fun Q q => hc _ _ ⟨fun _ => q, fun z => absurd rfl z⟩, fun Q q => hm _ _ ⟨fun _ => q, fun z => absurd rfl z⟩⟩
theorem j_repeal {σ μ : St} (h : RR σ μ) : JJ RR (fun Q => wp_X9_repeal Q σ) (fun Q => wp_X10_repeal Q μ) := by
  have hD := h.2.2.2.2.2.1
  obtain ⟨n, h1, h2, h3, h4, h5, h6, h7, h8, h9, h10⟩ := hD
  by_cases z : n = 0
  · have z1 : σ 1 3 = 0 := by rw [h2, z]; rfl
    have z2 : μ 0 2 = 0 := by rw [h3, z]; rfl
    exact ⟨-4, σ, μ, h, fun Q q => ⟨fun y => absurd z1 y, fun _ => q⟩, fun Q q => ⟨fun y => absurd z2 y, fun _ => q⟩⟩
  · obtain ⟨m, rfl⟩ : ∃ m, n = m + 1 := ⟨n - 1, by omega⟩
    have hz : ¬ nI (m + 1) = 0 := fun y => by
      have := congrArg Int32.toInt y
      rw [nI_toInt (by omega)] at this
      have z0 : (0 : Int32).toInt = 0 := by decide
      omega
    have e1 : σ 1 3 - 1 = nI m := by rw [h2]; exact nI_pred m
    have e2 : μ 0 2 - 1 = nI m := by rw [h3]; exact nI_pred m
    refine ⟨nI m, up2 σ 1 3 (nI m), up2 μ 0 2 (nI m), RR_drum h (fun i hi => up2_ne (by omega)) (fun i hi => up2_ne (by omega)) (fun k k1 k2 => upd_ne (f := μ 0) k1) ⟨m, by omega, rfl, rfl, h4, h5, h6, fun s a hs ha => ?_, fun s hs => ?_, fun k hk => ?_, fun k s hk hs => ?_⟩, fun Q q => ⟨fun _ x ex => ?_, fun y => ?_⟩, fun Q q => ⟨fun _ x ex => ?_, fun y => ?_⟩⟩
    · rw [up2_ne (σ := σ) (i := 5 + 3 * s) (by omega), up2_ne (σ := σ) (i := 6 + 3 * s) (by omega)]; exact h7 s a hs ha
    · rw [up2_ne (by omega), up2_ne (by omega)]; exact h8 s hs
    · rw [up2_ne (by omega)]; exact h9 k (by omega)
    · rw [up2_ne (by omega), up2_ne (by omega), up2_ne (by omega)]; exact h10 k s (by omega) hs
    · subst ex; rw [e1]; exact q
    · rw [h2] at y; exact absurd y hz
    · subst ex; rw [e2]; exact q
    · rw [h3] at y; exact absurd y hz
set_option maxHeartbeats 1000000 in
theorem c_bat {σ μ : St} (h : rD σ μ) {p : Int32} (p1 : 1 ≤ p.toInt) (p2 : p.toInt ≤ 60) : ∃ (n : Nat) (r : Int32), n ≤ 16 ∧ σ 1 3 = nI n ∧ firstBad (fun k => allK (dS σ) (σ (25 + k)) p.toInt) 0 n r ∧ (∀ Q : Int32 → St → Prop, Q r σ → wp_X3_brokenAt Q p σ) ∧ (∀ Q : Int32 → St → Prop, Q r μ → wp_X10_brokenAt Q p μ) := by
  obtain ⟨n, h1, h2, h3, h4, h5, h6, h7, h8, h9, h10⟩ := h
  obtain ⟨r, q1, q2⟩ := bat_loop h1 h2 p1 p2 (fun k hk => (h9 k hk).2.2.2.2) h8 n 0 (by omega)
  obtain ⟨r2, q3, q4⟩ := batm_loop (μ := μ) (d := dS σ) ⟨h7, h8⟩ h1 h3 (l := fun k => σ (25 + k)) (fun k hk => ⟨(h9 k hk).1.symm, (h9 k hk).2.1.symm, (h9 k hk).2.2.1.symm, (h9 k hk).2.2.2.1.symm, (h9 k hk).2.2.2.2⟩) p1 p2 n 0 (by omega)
  have er := fb_uniq q1 q3
  exact ⟨n, r, h1, h2, q1, fun Q q => q2 Q q, fun Q q => by rw [er] at q; exact q4 Q q⟩
set_option maxHeartbeats 1000000 in
theorem j_pace {σ μ : St} (h : RR σ μ) (a : Int32) : JJ RR (fun Q => wp_X9_pace Q a σ) (fun Q => wp_X10_pace Q a μ) := by
  rcases c_btw a 1 60 with ⟨h1, h2, hc, hm⟩ | ⟨hb, hc, hm⟩
  · have hr : 1 ≤ a.toInt ∧ a.toInt ≤ 60 := rng h1 h2
    have hD := h.2.2.2.2.2.1
    obtain ⟨n, r, hn, e3, g2, g3, g4⟩ := c_bat hD hr.1 hr.2
    rcases g2 with ⟨er, hall⟩ | ⟨k, k1, k2, er, k3, k4⟩
    · obtain ⟨n2, h1, h2, h3, h4, h5, h6, h7, h8, h9, h10⟩ := hD
      have en : n2 = n := by
        have := h2.symm.trans e3
        have := congrArg Int32.toInt this
        rw [nI_toInt (by omega), nI_toInt (by omega)] at this
        omega
      refine ⟨σ 1 4, up2 σ 1 4 a, up2 μ 0 7 a, RR_drum h (fun i hi => up2_ne (by omega)) (fun i hi => up2_ne (by omega)) (fun k k1 k2 => upd_ne (f := μ 0) k2) ⟨n2, h1, h2, h3, rfl, hr.1, hr.2, fun s x hs hx => ?_, fun s hs => ?_, fun k hk => ?_, fun k s hk hs => ?_⟩, fun Q q => ?_, fun Q q => ?_⟩
      · rw [up2_ne (σ := σ) (i := 5 + 3 * s) (by omega), up2_ne (σ := σ) (i := 6 + 3 * s) (by omega)]; exact h7 s x hs hx
      · rw [up2_ne (by omega), up2_ne (by omega)]; exact h8 s hs
      · rw [up2_ne (by omega)]; exact h9 k hk
      · rw [up2_ne (by omega), up2_ne (by omega), up2_ne (by omega)]; exact hall k (Nat.zero_le _) (by omega) s hs
      · refine hc _ _ ⟨fun _ => g3 _ ⟨fun _ x ex y ey => ?_, fun z => absurd er z⟩, fun z => absurd z (by decide)⟩
        subst ey; subst ex
        exact q
      · refine hm _ _ ⟨fun _ => g4 _ ⟨fun _ x ex y ey => ?_, fun z => absurd (show r < 0 by rw [er]; decide) z⟩, fun z => absurd z (by decide)⟩
        subst ey; subst ex
        rw [← h4]
        exact q
    · have hr1 : ¬ r = -1 := by rw [er]; exact nI_nm1 (by omega)
      have hr0 : ¬ r < 0 := by rw [er]; exact nI_n0 (by omega)
      exact ⟨-100 - r, σ, μ, h, fun Q q => hc _ _ ⟨fun _ => g3 _ ⟨fun z => absurd z hr1, fun _ => q⟩, fun z => absurd z (by decide)⟩, fun Q q => hm _ _ ⟨fun _ => g4 _ ⟨fun z => absurd z hr0, fun _ => q⟩, fun z => absurd z (by decide)⟩⟩
  · exact ⟨-1, σ, μ, h, fun Q q => hc _ _ ⟨fun z => absurd rfl z, fun _ => q⟩, fun Q q => hm _ _ ⟨fun z => absurd rfl z, fun _ => q⟩⟩
set_option maxHeartbeats 1000000 in
theorem j_act {σ μ : St} (h : RR σ μ) (a b c d : Int32) : JJ RR (fun Q => wp_X9_act Q a b c d σ) (fun Q => wp_X10_act Q a b c d μ) := by
  rcases c_sec a with ⟨ha, hc, hm⟩ | ⟨hc, hm⟩
  · rcases c_act b with ⟨hb, hc2, hm2⟩ | ⟨hc2, hm2⟩
    · obtain ⟨s, hs, ea⟩ := vp_in_of ha (by decide)
      have ea := ea.symm
      subst ea
      have hD := h.2.2.2.2.2.1
      obtain ⟨n, h1, h2, h3, h4, h5, h6, h7, h8, h9, h10⟩ := hD
      have cs : (nI s).toNatClampNeg = s := nI_clamp (by omega)
      have e1 : 4 + 3 * s + 1 = 5 + 3 * s := by omega
      have e2 : 4 + 3 * s + 2 = 6 + 3 * s := by omega
      obtain ⟨x1, x2, x3⟩ := idx8 hs hb
      have hbb := vp_lt hb
      have hF : ∀ x, x < 8 → μ 1 (8 * s + x) = σ (5 + 3 * s) x := fun x hx => (h7 s x hs hx).1.symm
      have hG : ∀ x, x < 8 → μ 2 (8 * s + x) = σ (6 + 3 * s) x := fun x hx => (h7 s x hs hx).2.symm
      -- what the class does for a kind of question
      have C : ∀ (Q : Int32 → St → Prop), ((c = (0 : Int32) → (vp_in b 8 ∧ (Q (σ ((4 + 3 * s) + 1) b.toNatClampNeg) σ))) ∧
          (c = (1 : Int32) → (vp_in b 8 ∧ (Q (σ ((4 + 3 * s) + 2) b.toNatClampNeg) σ))) ∧
          (c = (2 : Int32) → (wp_X2_length (fun r12 σ13 => Q r12 σ13) (4 + 3 * s) b σ)) ∧
          (c = (3 : Int32) → (wp_X9_isDegree (fun r15 σ16 => (r15 = 0 → (Q (-1 : Int32) σ16)) ∧ (¬ r15 = 0 → (wp_X2_isDone (fun r18 σ19 => wp_X9_asNumber (fun r20 σ21 => Q r20 σ21) r18 σ19) (4 + 3 * s) b d σ16))) d σ)) ∧
          (¬ c = (0 : Int32) → ¬ c = (1 : Int32) → ¬ c = (2 : Int32) → ¬ c = (3 : Int32) → (Q (-1 : Int32) σ))) → wp_X9_act Q (nI s) b c d σ := by
        intro Q q
        refine hc _ _ ⟨fun z => absurd z (by decide), fun _ => hc2 _ _ ⟨fun _ => ⟨ha, ?_⟩, fun z => absurd z (by decide)⟩⟩
        rw [cs]
        exact q
      rcases c_btw c 0 3 with ⟨h1, h2, hc3, hm3⟩ | ⟨hno, hc3, hm3⟩
      · have v4 : vp_in c 4 := in_of h1 h2 (by decide)
        rcases kind4 v4 with k | k | k | k
        · subst k
          refine ⟨σ (5 + 3 * s) b.toNatClampNeg, σ, μ, h, fun Q q => C Q ⟨fun _ => ⟨hb, by rw [e1]; exact q⟩, fun z => absurd z (by decide), fun z => absurd z (by decide), fun z => absurd z (by decide), fun z => absurd rfl z⟩, fun Q q => hm _ _ ⟨fun z => absurd z (by decide), fun _ => hm2 _ _ ⟨fun z => absurd z (by decide), fun _ => hm3 _ _ ⟨fun z => absurd z (by decide), fun _ => ⟨fun _ => ⟨fun _ => ⟨x2, ?_⟩, fun z => absurd z (by decide), fun z => absurd z (by decide), fun z => absurd rfl z⟩, fun z => absurd z (by decide)⟩⟩⟩⟩⟩
          rw [x3, hF _ hbb]; exact q
        · subst k
          refine ⟨σ (6 + 3 * s) b.toNatClampNeg, σ, μ, h, fun Q q => C Q ⟨fun z => absurd z (by decide), fun _ => ⟨hb, by rw [e2]; exact q⟩, fun z => absurd z (by decide), fun z => absurd z (by decide), fun _ z => absurd rfl z⟩, fun Q q => hm _ _ ⟨fun z => absurd z (by decide), fun _ => hm2 _ _ ⟨fun z => absurd z (by decide), fun _ => hm3 _ _ ⟨fun z => absurd z (by decide), fun _ => ⟨fun _ => ⟨fun z => absurd z (by decide), fun _ => ⟨x2, ?_⟩, fun z => absurd z (by decide), fun _ z => absurd rfl z⟩, fun z => absurd z (by decide)⟩⟩⟩⟩⟩
          rw [x3, hG _ hbb]; exact q
        · subst k
          refine ⟨wayV (σ (5 + 3 * s) b.toNatClampNeg) (σ (6 + 3 * s) b.toNatClampNeg), σ, μ, h, fun Q q => C Q ⟨fun z => absurd z (by decide), fun z => absurd z (by decide), fun _ => len_c hb (by rw [e1, e2]; exact q), fun z => absurd z (by decide), fun _ _ z => absurd rfl z⟩, fun Q q => hm _ _ ⟨fun z => absurd z (by decide), fun _ => hm2 _ _ ⟨fun z => absurd z (by decide), fun _ => hm3 _ _ ⟨fun z => absurd z (by decide), fun _ => ⟨fun _ => ⟨fun z => absurd z (by decide), fun z => absurd z (by decide), fun _ => mlen hs hF hG (h8 s hs) hb q, fun _ _ z => absurd rfl z⟩, fun z => absurd z (by decide)⟩⟩⟩⟩⟩
        · subst k
          rcases c_deg d with ⟨hd, hc4, hm4⟩ | ⟨hc4, hm4⟩
          · by_cases y : dnV (σ (5 + 3 * s)) (σ (6 + 3 * s)) b.toNatClampNeg d = 0
            · refine ⟨0, σ, μ, h, fun Q q => C Q ⟨fun z => absurd z (by decide), fun z => absurd z (by decide), fun z => absurd z (by decide), fun _ => hc4 _ _ ⟨fun z => absurd z (by decide), fun _ => done_c hb ?_⟩, fun _ _ _ z => absurd rfl z⟩, fun Q q => hm _ _ ⟨fun z => absurd z (by decide), fun _ => hm2 _ _ ⟨fun z => absurd z (by decide), fun _ => hm3 _ _ ⟨fun z => absurd z (by decide), fun _ => ⟨fun z => absurd rfl z, fun _ => hm4 _ _ ⟨fun _ => ⟨fun z => absurd z (by decide), fun z => absurd z (by decide), fun z => absurd z (by decide), fun _ _ _ => mdone hs hF hG (h8 s hs) hb (deg_of hd) ⟨fun _ => q, fun z => absurd y z⟩⟩, fun z => absurd z (by decide)⟩⟩⟩⟩⟩⟩
              rw [e1, e2]
              exact ⟨fun _ => q, fun z => absurd y z⟩
            · refine ⟨1, σ, μ, h, fun Q q => C Q ⟨fun z => absurd z (by decide), fun z => absurd z (by decide), fun z => absurd z (by decide), fun _ => hc4 _ _ ⟨fun z => absurd z (by decide), fun _ => done_c hb ?_⟩, fun _ _ _ z => absurd rfl z⟩, fun Q q => hm _ _ ⟨fun z => absurd z (by decide), fun _ => hm2 _ _ ⟨fun z => absurd z (by decide), fun _ => hm3 _ _ ⟨fun z => absurd z (by decide), fun _ => ⟨fun z => absurd rfl z, fun _ => hm4 _ _ ⟨fun _ => ⟨fun z => absurd z (by decide), fun z => absurd z (by decide), fun z => absurd z (by decide), fun _ _ _ => mdone hs hF hG (h8 s hs) hb (deg_of hd) ⟨fun z => absurd z y, fun _ => q⟩⟩, fun z => absurd z (by decide)⟩⟩⟩⟩⟩⟩
              rw [e1, e2]
              exact ⟨fun z => absurd z y, fun _ => q⟩
          · exact ⟨-1, σ, μ, h, fun Q q => C Q ⟨fun z => absurd z (by decide), fun z => absurd z (by decide), fun z => absurd z (by decide), fun _ => hc4 _ _ ⟨fun _ => q, fun z => absurd rfl z⟩, fun _ _ _ z => absurd rfl z⟩, fun Q q => hm _ _ ⟨fun z => absurd z (by decide), fun _ => hm2 _ _ ⟨fun z => absurd z (by decide), fun _ => hm3 _ _ ⟨fun z => absurd z (by decide), fun _ => ⟨fun z => absurd rfl z, fun _ => hm4 _ _ ⟨fun z => absurd rfl z, fun _ => q⟩⟩⟩⟩⟩⟩
      · have n0 : ¬ c = 0 := fun z => by subst z; exact absurd hno (by decide)
        have n1 : ¬ c = 1 := fun z => by subst z; exact absurd hno (by decide)
        have n2 : ¬ c = 2 := fun z => by subst z; exact absurd hno (by decide)
        have n3 : ¬ c = 3 := fun z => by subst z; exact absurd hno (by decide)
        exact ⟨-1, σ, μ, h, fun Q q => C Q ⟨fun z => absurd z n0, fun z => absurd z n1, fun z => absurd z n2, fun z => absurd z n3, fun _ _ _ _ => q⟩, fun Q q => hm _ _ ⟨fun z => absurd z (by decide), fun _ => hm2 _ _ ⟨fun z => absurd z (by decide), fun _ => hm3 _ _ ⟨fun _ => q, fun z => absurd rfl z⟩⟩⟩⟩
    · exact ⟨-1, σ, μ, h, fun Q q => hc _ _ ⟨fun z => absurd z (by decide), fun _ => hc2 _ _ ⟨fun z => absurd rfl z, fun _ => q⟩⟩, fun Q q => hm _ _ ⟨fun z => absurd z (by decide), fun _ => hm2 _ _ ⟨fun _ => q, fun z => absurd rfl z⟩⟩⟩
  · exact ⟨-1, σ, μ, h, fun Q q => hc _ _ ⟨fun _ => q, fun z => absurd rfl z⟩, fun Q q => hm _ _ ⟨fun _ => q, fun z => absurd rfl z⟩⟩
