/-! THE START: the class's first state, the reference's, and that they go together -/
def zF : Nat → Int32 := fun _ => 0
def k1F : Nat → Int32 := fun j => if j = 2 then 1 else 0
def sL : List (Nat → Int32) := [(fun j => if j = 11 then 500 else if j = 13 then 200 else 0), (fun j => if j = 4 then 10 else 0), zF, zF, zF, iniOn, iniOff, zF, iniOn, iniOff, zF, iniOn, iniOff, zF, iniOn, iniOff, zF, iniOn, iniOff, zF, iniOn, iniOff, zF, iniOn, iniOff, zF, zF, zF, zF, zF, zF, zF, zF, zF, zF, zF, zF, zF, zF, zF, zF, (fun j => if j = 1 then 43 else 0), (fun j => nI (46 + 3 * j)), zF, zF, zF, k1F, upd zF 0 0, upd zF 0 0, k1F, upd zF 0 0, upd zF 0 300, k1F, upd zF 0 0, upd zF 0 600, (fun j => if j = 2 then 6 else 0), iniSec, zF, zF, zF, zF, zF, zF, iniIn, zF, zF, zF, zF, zF, zF, zF, zF, zF, zF, zF, zF, zF, zF, zF, upd (upd (upd (upd zF 0 500) 1 500) 2 500) 3 500, zF, zF]
def sIni : St := fun i => sL.getD i zF
def mFin (μ : St) : Prop := μ 0 = muIni 0 ∧ (∀ k, k < 48 → μ 1 k = nI (40 * (k % 8)) ∧ μ 2 k = nI (40 * (k % 8) + 20)) ∧ (∀ k, k < 3 → μ 7 k = 1 ∧ μ 9 (6 * k) = nI (300 * k)) ∧ (∀ k, k < 6 → μ 12 k = nI k ∧ μ 14 k = nI k) ∧ (∀ k, k < 4 → μ 15 k = 500) ∧ ∀ c, c ≠ 0 → c ≠ 1 → c ≠ 2 → c ≠ 7 → c ≠ 9 → c ≠ 12 → c ≠ 14 → c ≠ 15 → μ c = zF
theorem iniOn_eq {a : Nat} (h : a < 8) : iniOn a = nI (40 * a) ∧ iniOff a = nI (40 * a + 20) := by
  rcases (show a = 0 ∨ a = 1 ∨ a = 2 ∨ a = 3 ∨ a = 4 ∨ a = 5 ∨ a = 6 ∨ a = 7 by omega) with rfl | rfl | rfl | rfl | rfl | rfl | rfl | rfl <;> exact ⟨rfl, rfl⟩
theorem iniSec_eq {a : Nat} (h : a < 6) : iniSec a = nI a ∧ iniIn a = nI a := by
  rcases (show a = 0 ∨ a = 1 ∨ a = 2 ∨ a = 3 ∨ a = 4 ∨ a = 5 by omega) with rfl | rfl | rfl | rfl | rfl | rfl <;> exact ⟨rfl, rfl⟩
theorem sDrum {s : Nat} (h : s < 6) : sIni (5 + 3 * s) = iniOn ∧ sIni (6 + 3 * s) = iniOff := by
  rcases (show s = 0 ∨ s = 1 ∨ s = 2 ∨ s = 3 ∨ s = 4 ∨ s = 5 by omega) with rfl | rfl | rfl | rfl | rfl | rfl <;> exact ⟨rfl, rfl⟩
theorem vz {n : Nat} (h : 0 < n) (h2 : n < 2 ^ 31) : vp_in (0 : Int32) n := vp_in_nI (n := 0) h h2
set_option maxHeartbeats 1000000 in
theorem RR_ini {μ : St} (h : mFin μ) : RR sIni μ := by
  obtain ⟨h0, h1, h2, h3, h4, h5⟩ := h
  have z : ∀ c, c ≠ 0 → c ≠ 1 → c ≠ 2 → c ≠ 7 → c ≠ 9 → c ≠ 12 → c ≠ 14 → c ≠ 15 → ∀ j, μ c j = 0 := fun c a1 a2 a3 a4 a5 a6 a7 a8 j => by rw [h5 c a1 a2 a3 a4 a5 a6 a7 a8]; rfl
  have t500 : (500 : Int32).toInt = 500 := by decide
  refine ⟨⟨fun j hj => ⟨?_, vz (by decide) (by decide)⟩, fun j hj => ?_, fun j hj => ?_⟩, ⟨fun j hj => ?_, ?_, ?_, ⟨?_, by decide, by decide⟩, ⟨?_, by decide, by decide⟩, ?_, ?_⟩, ⟨fun j hj => ⟨?_, ?_, ?_, Or.inl rfl, ?_, ?_⟩, fun j hj => ?_⟩, ?_, ?_, ?_, ?_⟩
  · exact (z 13 (by omega) (by omega) (by omega) (by omega) (by omega) (by omega) (by omega) (by omega) j).symm
  · have e : sIni 79 j = 500 := by
      rcases (show j = 0 ∨ j = 1 ∨ j = 2 ∨ j = 3 by omega) with rfl | rfl | rfl | rfl <;> rfl
    rw [e, h4 j hj, t500]
    exact ⟨rfl, by omega, by omega⟩
  · exact (z 16 (by omega) (by omega) (by omega) (by omega) (by omega) (by omega) (by omega) (by omega) j).symm
  · exact (z 29 (by omega) (by omega) (by omega) (by omega) (by omega) (by omega) (by omega) (by omega) j).symm
  · rw [h0]; rfl
  · rw [h0]; rfl
  · rw [h0]; rfl
  · rw [h0]; rfl
  · rw [h0]; rfl
  · rw [h0]; rfl
  · exact (z 17 (by omega) (by omega) (by omega) (by omega) (by omega) (by omega) (by omega) (by omega) j).symm
  · exact (z 18 (by omega) (by omega) (by omega) (by omega) (by omega) (by omega) (by omega) (by omega) j).symm
  · exact (z 19 (by omega) (by omega) (by omega) (by omega) (by omega) (by omega) (by omega) (by omega) j).symm
  · exact (z 20 (by omega) (by omega) (by omega) (by omega) (by omega) (by omega) (by omega) (by omega) j).symm
  · exact (z 21 (by omega) (by omega) (by omega) (by omega) (by omega) (by omega) (by omega) (by omega) j).symm
  · have e : sIni 63 j = nI j := (iniSec_eq hj).2
    rw [e, (h3 j hj).2]
    exact ⟨rfl, vp_in_nI (by omega) (by decide)⟩
  · have e : ∀ j, j < 6 → sIni 56 j = nI j := fun j hj => (iniSec_eq hj).1
    refine ⟨6, 0, by omega, rfl, by rw [h0]; rfl, rfl, by rw [h0]; rfl, Or.inl (by omega), fun j hj => ?_, fun j hj => ?_, fun i j hi hj he => ?_⟩
    · rw [e j hj, (h3 j hj).1]
    · rw [e j hj]; exact vp_in_nI (by omega) (by decide)
    · rw [e i hi, e j hj] at he
      have := congrArg Int32.toInt he
      rw [nI_toInt (by omega), nI_toInt (by omega)] at this
      omega
  · exact ⟨0, 0, by omega, by omega, rfl, rfl, by rw [h0]; rfl, fun k hk => absurd hk (by omega)⟩
  · refine ⟨0, by omega, rfl, by rw [h0]; rfl, by rw [h0]; rfl, by decide, by decide, fun s a hs ha => ?_, fun s hs a ha => ?_, fun k hk => absurd hk (by omega), fun k s hk _ => absurd hk (by omega)⟩
    · rw [(sDrum hs).1, (sDrum hs).2, (iniOn_eq ha).1, (iniOn_eq ha).2, (h1 (8 * s + a) (by omega)).1, (h1 (8 * s + a) (by omega)).2, show (8 * s + a) % 8 = a from by omega]
      exact ⟨rfl, rfl⟩
    · rw [(sDrum hs).1, (sDrum hs).2, (iniOn_eq ha).1, (iniOn_eq ha).2]
      have t1 : (nI (40 * a)).toInt = ((40 * a : Nat) : Int) := nI_toInt (by omega)
      have t2 : (nI (40 * a + 20)).toInt = ((40 * a + 20 : Nat) : Int) := nI_toInt (by omega)
      unfold deg
      refine ⟨by omega, by omega, fun he => ?_⟩
      have := congrArg Int32.toInt he
      omega
  · have z8 := z 8 (by omega) (by omega) (by omega) (by omega) (by omega) (by omega) (by omega) (by omega)
    refine ⟨fun i => if i = 3 then 0 else i + 1, fun i => if i = 3 then 0 else 1, fun i hi => ?_, fun i j hi hj he => ?_, fun i hi => ?_, rfl, fun i hi => ?_, fun i hi => ?_, fun i hi => ?_, by rw [h0]; rfl, fun i k hi hk => ?_, fun k hk => ?_, fun i k hi hk => ?_, fun i k hi hk => ?_⟩
    · rcases (show i = 0 ∨ i = 1 ∨ i = 2 ∨ i = 3 by omega) with rfl | rfl | rfl | rfl <;> decide
    · have he : (if i = 3 then 0 else i + 1) = (if j = 3 then 0 else j + 1) := he
      by_cases y1 : i = 3
      · by_cases y2 : j = 3
        · omega
        · rw [if_pos y1, if_neg y2] at he; omega
      · by_cases y2 : j = 3
        · rw [if_neg y1, if_pos y2] at he; omega
        · rw [if_neg y1, if_neg y2] at he; omega
    · rcases (show i = 0 ∨ i = 1 ∨ i = 2 by omega) with rfl | rfl | rfl <;> rfl
    · rcases (show i = 0 ∨ i = 1 ∨ i = 2 by omega) with rfl | rfl | rfl <;> decide
    · rcases (show i = 0 ∨ i = 1 ∨ i = 2 ∨ i = 3 by omega) with rfl | rfl | rfl | rfl <;> exact ⟨by decide, rfl⟩
    · rw [(h2 i hi).1]
      rcases (show i = 0 ∨ i = 1 ∨ i = 2 by omega) with rfl | rfl | rfl <;> rfl
    · have hk : k < (if i = 3 then 0 else 1) := hk
      rw [if_neg (by omega)] at hk
      have k0 : k = 0 := by omega
      rw [k0, show 6 * i + 0 = 6 * i from by omega, (h2 i hi).2, z8]
      rcases (show i = 0 ∨ i = 1 ∨ i = 2 by omega) with rfl | rfl | rfl <;> exact ⟨rfl, rfl⟩
    · have hk : k < (if 3 = 3 then 0 else 1) := hk
      rw [if_pos rfl] at hk
      omega
    · have hk : k < (if i = 3 then 0 else 1) := hk
      by_cases y : i = 3
      · rw [if_pos y] at hk; omega
      · rw [if_neg y] at hk
        have k0 : k = 0 := by omega
        rw [k0]
        unfold deg
        rcases (show i = 0 ∨ i = 1 ∨ i = 2 by omega) with rfl | rfl | rfl <;> decide
    · have hk : k + 1 < (if i = 3 then 0 else 1) := hk
      by_cases y : i = 3
      · rw [if_pos y] at hk; omega
      · rw [if_neg y] at hk; omega
/-! the reference's constructor comes to such a state -/
theorem mi_386 : ∀ (m i : Nat) (μ : St), i + m = 4 → ∃ μ' : St, (∀ c, c ≠ 15 → μ' c = μ c) ∧ (∀ k, i ≤ k → k < 4 → μ' 15 k = 500) ∧ (∀ k, k < i → μ' 15 k = μ 15 k) ∧ ∀ Q : St → Prop, Q μ' → ∃ fu, wl_X10_init_386 Q fu μ (nI i) := by
  intro m
  induction m with
  | zero =>
    intro i μ hi
    have hle : (4 : Int32) ≤ nI i := nI_le (a := 4) (by omega) (by omega)
    exact ⟨μ, fun _ _ => rfl, fun k h1 h2 => absurd h1 (by omega), fun _ _ => rfl, fun Q q => ⟨1, ⟨fun _ => q, fun z => absurd hle z⟩⟩⟩
  | succ m ih =>
    intro i μ hi
    have hlt : ¬ (4 : Int32) ≤ nI i := nI_ge (b := 4) (by omega) (by omega)
    have ci : (nI i).toNatClampNeg = i := nI_clamp (by omega)
    have vi : vp_in (nI i) 4 := vp_in_nI (by omega) (by decide)
    obtain ⟨μ', g1, g2, g3, g4⟩ := ih (i + 1) (up2 μ 15 i 500) (by omega)
    refine ⟨μ', fun c hc => by rw [g1 c hc, up2_ne hc], fun k h1 h2 => ?_, fun k hk => by rw [g3 k (by omega), up2_eq, upd_ne (by omega)], fun Q q => ?_⟩
    · by_cases y : k = i
      · rw [y, g3 i (by omega), up2_eq, upd_eq]
      · exact g2 k (by omega) h2
    · obtain ⟨fu, hfu⟩ := g4 Q q
      refine ⟨fu + 1, ⟨fun z => absurd z hlt, fun _ => ⟨vi, fun x ex y ey => ?_⟩⟩⟩
      subst ey; subst ex
      rw [ci, nI_1]
      exact hfu
theorem mi_352 : ∀ (m i : Nat) (μ : St), i + m = 3 → ∃ μ' : St, (∀ c, c ≠ 7 → c ≠ 9 → μ' c = μ c) ∧ (∀ k, i ≤ k → k < 3 → μ' 7 k = 1 ∧ μ' 9 (6 * k) = nI (300 * k)) ∧ (∀ k, k < i → μ' 7 k = μ 7 k ∧ μ' 9 (6 * k) = μ 9 (6 * k)) ∧ ∀ Q : St → Prop, (∃ fu, wl_X10_init_386 Q fu μ' (nI 0)) → ∃ fu, wl_X10_init_352 Q fu μ (nI i) := by
  intro m
  induction m with
  | zero =>
    intro i μ hi
    have hle : (3 : Int32) ≤ nI i := nI_le (a := 3) (by omega) (by omega)
    exact ⟨μ, fun _ _ _ => rfl, fun k h1 h2 => absurd h1 (by omega), fun _ _ => ⟨rfl, rfl⟩, fun Q q => ⟨1, ⟨fun _ => q, fun z => absurd hle z⟩⟩⟩
  | succ m ih =>
    intro i μ hi
    have hlt : ¬ (3 : Int32) ≤ nI i := nI_ge (b := 3) (by omega) (by omega)
    have ci : (nI i).toNatClampNeg = i := nI_clamp (by omega)
    have vi : vp_in (nI i) 3 := vp_in_nI (by omega) (by decide)
    have e6 : (6 : Int32) * nI i = nI (6 * i) := by rw [show (6 : Int32) = nI 6 from rfl, pk_mul]
    have e3 : (300 : Int32) * nI i = nI (300 * i) := by rw [show (300 : Int32) = nI 300 from rfl, pk_mul]
    have c6 : (nI (6 * i)).toNatClampNeg = 6 * i := nI_clamp (by omega)
    have v6 : vp_in (nI (6 * i)) 18 := vp_in_nI (by omega) (by decide)
    obtain ⟨μ', g1, g2, g3, g4⟩ := ih (i + 1) (up2 (up2 μ 7 i 1) 9 (6 * i) (nI (300 * i))) (by omega)
    have w7 : up2 (up2 μ 7 i 1) 9 (6 * i) (nI (300 * i)) 7 = upd (μ 7) i 1 := rfl
    have w9 : up2 (up2 μ 7 i 1) 9 (6 * i) (nI (300 * i)) 9 = upd (μ 9) (6 * i) (nI (300 * i)) := rfl
    refine ⟨μ', fun c h1 h2 => by rw [g1 c h1 h2, up2_ne h2, up2_ne h1], fun k h1 h2 => ?_, fun k hk => ?_, fun Q q => ?_⟩
    · by_cases y : k = i
      · rw [y, (g3 i (by omega)).1, (g3 i (by omega)).2, w7, w9, upd_eq, upd_eq]
        exact ⟨rfl, rfl⟩
      · exact g2 k (by omega) h2
    · rw [(g3 k (by omega)).1, (g3 k (by omega)).2, w7, w9, upd_ne (by omega), upd_ne (by omega)]
      exact ⟨rfl, rfl⟩
    · obtain ⟨fu, hfu⟩ := g4 Q q
      refine ⟨fu + 1, ⟨fun z => absurd z hlt, fun _ => ?_⟩⟩
      rw [e6, e3, c6, ci]
      refine ⟨vi, fun x ex => ⟨v6, fun y ey w ew => ?_⟩⟩
      subst ew; subst ey; subst ex
      rw [nI_1]
      exact hfu
theorem mi_285 {s : Nat} (hs : s < 6) : ∀ (m i : Nat) (μ : St), i + m = 8 → ∃ μ' : St, (∀ c, c ≠ 1 → c ≠ 2 → μ' c = μ c) ∧ (∀ k, μ' 1 k = if 8 * s + i ≤ k ∧ k < 8 * s + 8 then nI (40 * (k - 8 * s)) else μ 1 k) ∧ (∀ k, μ' 2 k = if 8 * s + i ≤ k ∧ k < 8 * s + 8 then nI (40 * (k - 8 * s) + 20) else μ 2 k) ∧ ∀ (Q : St → Prop) (L277 : St → Int32 → Prop), L277 (up2 (up2 μ' 12 s (nI s)) 14 s (nI s)) (nI (s + 1)) → ∃ fu, wl_X10_init_285 Q L277 (nI s) fu μ (nI i) := by
  have cs : (nI s).toNatClampNeg = s := nI_clamp (by omega)
  have vs : vp_in (nI s) 6 := vp_in_nI hs (by decide)
  intro m
  induction m with
  | zero =>
    intro i μ hi
    have hle : (8 : Int32) ≤ nI i := nI_le (a := 8) (by omega) (by omega)
    refine ⟨μ, fun _ _ _ => rfl, fun k => by rw [if_neg (by omega)], fun k => by rw [if_neg (by omega)], fun Q L q => ⟨1, ⟨fun _ => ?_, fun z => absurd hle z⟩⟩⟩
    rw [cs]
    refine ⟨vs, fun x ex => ⟨vs, fun y ey w ew => ?_⟩⟩
    subst ew; subst ey; subst ex
    rw [nI_1]
    exact q
  | succ m ih =>
    intro i μ hi
    have hlt : ¬ (8 : Int32) ≤ nI i := nI_ge (b := 8) (by omega) (by omega)
    obtain ⟨vx, cx⟩ := idx8n (i := i) hs (by omega)
    have e40 : (40 : Int32) * nI i = nI (40 * i) := by rw [show (40 : Int32) = nI 40 from rfl, pk_mul]
    have e20 : nI (40 * i) + (20 : Int32) = nI (40 * i + 20) := by rw [show (20 : Int32) = nI 20 from rfl, nI_add]
    obtain ⟨μ', g1, g2, g3, g4⟩ := ih (i + 1) (up2 (up2 μ 1 (8 * s + i) (nI (40 * i))) 2 (8 * s + i) (nI (40 * i + 20))) (by omega)
    have w1 : up2 (up2 μ 1 (8 * s + i) (nI (40 * i))) 2 (8 * s + i) (nI (40 * i + 20)) 1 = upd (μ 1) (8 * s + i) (nI (40 * i)) := rfl
    have w2 : up2 (up2 μ 1 (8 * s + i) (nI (40 * i))) 2 (8 * s + i) (nI (40 * i + 20)) 2 = upd (μ 2) (8 * s + i) (nI (40 * i + 20)) := rfl
    refine ⟨μ', fun c h1 h2 => by rw [g1 c h1 h2, up2_ne h2, up2_ne h1], fun k => ?_, fun k => ?_, fun Q L q => ?_⟩
    · rw [g2 k, w1]
      by_cases z : 8 * s + (i + 1) ≤ k ∧ k < 8 * s + 8
      · rw [if_pos z, if_pos (by omega)]
      · rw [if_neg z]
        by_cases y : k = 8 * s + i
        · rw [y, upd_eq, if_pos (by omega), show 8 * s + i - 8 * s = i from by omega]
        · rw [upd_ne y, if_neg (by omega)]
    · rw [g3 k, w2]
      by_cases z : 8 * s + (i + 1) ≤ k ∧ k < 8 * s + 8
      · rw [if_pos z, if_pos (by omega)]
      · rw [if_neg z]
        by_cases y : k = 8 * s + i
        · rw [y, upd_eq, if_pos (by omega), show 8 * s + i - 8 * s = i from by omega]
        · rw [upd_ne y, if_neg (by omega)]
    · obtain ⟨fu, hfu⟩ := g4 Q L q
      refine ⟨fu + 1, ⟨fun z => absurd z hlt, fun _ => ?_⟩⟩
      rw [e40, e20, cx]
      refine ⟨vx, fun x ex => ⟨vx, fun y ey w ew => ?_⟩⟩
      subst ew; subst ey; subst ex
      rw [nI_1]
      exact hfu
set_option maxHeartbeats 1000000 in
theorem mi_277 : ∀ (m s : Nat) (μ : St), s + m = 6 → ∃ μ' : St, (∀ c, c ≠ 1 → c ≠ 2 → c ≠ 12 → c ≠ 14 → μ' c = μ c) ∧ (∀ k, 8 * s ≤ k → k < 48 → μ' 1 k = nI (40 * (k % 8)) ∧ μ' 2 k = nI (40 * (k % 8) + 20)) ∧ (∀ k, k < 8 * s → μ' 1 k = μ 1 k ∧ μ' 2 k = μ 2 k) ∧ (∀ k, s ≤ k → k < 6 → μ' 12 k = nI k ∧ μ' 14 k = nI k) ∧ (∀ k, k < s → μ' 12 k = μ 12 k ∧ μ' 14 k = μ 14 k) ∧ ∀ (Q : St → Prop), (∃ fu, wl_X10_init_352 Q fu μ' (nI 0)) → ∃ fu, wl_X10_init_277 Q fu μ (nI s) := by
  intro m
  induction m with
  | zero =>
    intro s μ hs
    have hle : (6 : Int32) ≤ nI s := nI_le (a := 6) (by omega) (by omega)
    exact ⟨μ, fun _ _ _ _ _ => rfl, fun k h1 h2 => absurd h1 (by omega), fun _ _ => ⟨rfl, rfl⟩, fun k h1 h2 => absurd h1 (by omega), fun _ _ => ⟨rfl, rfl⟩, fun Q q => ⟨1, ⟨fun _ => q, fun z => absurd hle z⟩⟩⟩
  | succ m ih =>
    intro s μ hs
    have hlt : ¬ (6 : Int32) ≤ nI s := nI_ge (b := 6) (by omega) (by omega)
    obtain ⟨μ1, f1, f2, f3, f4⟩ := mi_285 (s := s) (by omega) 8 0 μ rfl
    obtain ⟨μ', g1, g2, g3, g4, g5, g6⟩ := ih (s + 1) (up2 (up2 μ1 12 s (nI s)) 14 s (nI s)) (by omega)
    have w1 : up2 (up2 μ1 12 s (nI s)) 14 s (nI s) 1 = μ1 1 := rfl
    have w2 : up2 (up2 μ1 12 s (nI s)) 14 s (nI s) 2 = μ1 2 := rfl
    have w12 : up2 (up2 μ1 12 s (nI s)) 14 s (nI s) 12 = upd (μ 12) s (nI s) := by
      show upd (μ1 12) s (nI s) = _
      rw [f1 12 (by omega) (by omega)]
    have w14 : up2 (up2 μ1 12 s (nI s)) 14 s (nI s) 14 = upd (μ 14) s (nI s) := by
      show upd (μ1 14) s (nI s) = _
      rw [f1 14 (by omega) (by omega)]
    refine ⟨μ', fun c h1 h2 h3 h4 => by rw [g1 c h1 h2 h3 h4, up2_ne h4, up2_ne h3, f1 c h1 h2], fun k h1 h2 => ?_, fun k hk => ?_, fun k h1 h2 => ?_, fun k hk => ?_, fun Q q => ?_⟩
    · by_cases y : 8 * (s + 1) ≤ k
      · exact g2 k y h2
      · rw [(g3 k (by omega)).1, (g3 k (by omega)).2, w1, w2, f2, f3, if_pos (by omega), if_pos (by omega), show k - 8 * s = k % 8 from by omega]
        exact ⟨rfl, rfl⟩
    · rw [(g3 k (by omega)).1, (g3 k (by omega)).2, w1, w2, f2, f3, if_neg (by omega), if_neg (by omega)]
      exact ⟨rfl, rfl⟩
    · by_cases y : k = s
      · rw [y, (g5 s (by omega)).1, (g5 s (by omega)).2, w12, w14, upd_eq, upd_eq]
        exact ⟨rfl, rfl⟩
      · exact g4 k (by omega) h2
    · rw [(g5 k (by omega)).1, (g5 k (by omega)).2, w12, w14, upd_ne (by omega), upd_ne (by omega)]
      exact ⟨rfl, rfl⟩
    · obtain ⟨fu, hfu⟩ := g6 Q q
      exact ⟨fu + 1, ⟨fun z => absurd z hlt, fun _ => f4 Q _ hfu⟩⟩
theorem m_ini : wb_X10_init_275 (fun μ => RR sIni μ) muIni := by
  obtain ⟨μ1, a1, a2, a3, a4, a5, a6⟩ := mi_277 6 0 muIni rfl
  obtain ⟨μ2, b1, b2, b3, b4⟩ := mi_352 3 0 μ1 rfl
  obtain ⟨μ3, c1, c2, c3, c4⟩ := mi_386 4 0 μ2 rfl
  refine a6 _ (b4 _ (c4 _ (RR_ini ⟨?_, fun k hk => ?_, fun k hk => ?_, fun k hk => ?_, fun k hk => c2 k (by omega) hk, fun c d1 d2 d3 d4 d5 d6 d7 d8 => ?_⟩)))
  · rw [c1 0 (by omega), b1 0 (by omega) (by omega), a1 0 (by omega) (by omega) (by omega) (by omega)]
  · rw [c1 1 (by omega), b1 1 (by omega) (by omega), c1 2 (by omega), b1 2 (by omega) (by omega)]
    exact a2 k (by omega) hk
  · rw [c1 7 (by omega), c1 9 (by omega)]
    exact b2 k (by omega) hk
  · rw [c1 12 (by omega), b1 12 (by omega) (by omega), c1 14 (by omega), b1 14 (by omega) (by omega)]
    exact a4 k (by omega) hk
  · rw [c1 c d8, b1 c d4 d5, a1 c d2 d3 d6 d7]
    funext j
    show (if c = 0 then _ else (0 : Int32)) = 0
    rw [if_neg d1]
