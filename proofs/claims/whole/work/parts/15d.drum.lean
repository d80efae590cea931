/-! drums: which law is broken first -/
def firstBad (P : Nat → Prop) (i n : Nat) (r : Int32) : Prop := (r = -1 ∧ ∀ k, i ≤ k → k < n → P k) ∨ (∃ k, i ≤ k ∧ k < n ∧ r = nI k ∧ ¬ P k ∧ ∀ j, i ≤ j → j < k → P j)
theorem fb_uniq {P : Nat → Prop} {i n : Nat} {r r2 : Int32} (h : firstBad P i n r) (h2 : firstBad P i n r2) : r = r2 := by
  rcases h with ⟨e, h⟩ | ⟨k, k1, k2, e, k3, k4⟩
  · rcases h2 with ⟨e2, h2⟩ | ⟨l, l1, l2, e2, l3, l4⟩
    · rw [e, e2]
    · exact absurd (h l l1 l2) l3
  · rcases h2 with ⟨e2, h2⟩ | ⟨l, l1, l2, e2, l3, l4⟩
    · exact absurd (h2 k k1 k2) k3
    · have : k = l := by
        rcases Nat.lt_trichotomy k l with z | z | z
        · exact absurd (l4 k k1 z) k3
        · exact z
        · exact absurd (k4 l l1 z) l3
      rw [e, e2, this]
theorem fb_end {P : Nat → Prop} {n : Nat} : firstBad P n n (-1) := Or.inl ⟨rfl, fun k h1 h2 => absurd h1 (by omega)⟩
theorem fb_here {P : Nat → Prop} {i n : Nat} (hi : i < n) (h : ¬ P i) : firstBad P i n (nI i) := Or.inr ⟨i, Nat.le_refl _, hi, rfl, h, fun j h1 h2 => absurd h1 (by omega)⟩
theorem fb_next {P : Nat → Prop} {i n : Nat} {r : Int32} (h : P i) (hr : firstBad P (i + 1) n r) : firstBad P i n r := by
  rcases hr with ⟨e, h2⟩ | ⟨k, k1, k2, e, k3, k4⟩
  · refine Or.inl ⟨e, fun k h3 h4 => ?_⟩
    by_cases z : k = i
    · rw [z]; exact h
    · exact h2 k (by omega) h4
  · refine Or.inr ⟨k, by omega, k2, e, k3, fun j h3 h4 => ?_⟩
    by_cases z : j = i
    · rw [z]; exact h
    · exact k4 j (by omega) h4
set_option maxHeartbeats 1000000 in
theorem bif_loop {σ : St} {n : Nat} (hn : n ≤ 16) (e3 : σ 1 3 = nI n) (p1 : 1 ≤ (σ 1 4).toInt) (p2 : (σ 1 4).toInt ≤ 60) (hl : ∀ k, k < n → lawOK (σ (25 + k))) (hd : drumOK (σ 23) (σ 24)) : ∀ (m i : Nat), i + m = n →
    ∃ r : Int32, firstBad (fun k => keepsP (σ 23) (σ 24) (σ (25 + k)) (σ 1 4).toInt) i n r ∧ ∀ Q : Int32 → St → Prop, Q r σ → ∃ fu, wl_X3_brokenIf_27 Q fu σ (nI i) := by
  intro m
  induction m with
  | zero =>
    intro i hi
    have hle : (σ 1 3) ≤ nI i := by rw [e3]; exact nI_le (by omega) (by omega)
    have ei : i = n := by omega
    rw [ei] at hle ⊢
    exact ⟨-1, fb_end, fun Q q => ⟨1, ⟨fun _ => q, fun z => absurd hle z⟩⟩⟩
  | succ m ih =>
    intro i hi
    have hlt : ¬ (σ 1 3) ≤ nI i := by rw [e3]; exact nI_ge (by omega) (by omega)
    have ci : (nI i).toNatClampNeg = i := nI_clamp (by omega)
    have vi : vp_in (nI i) 16 := vp_in_nI (by omega) (by decide)
    obtain ⟨b, hb, hq⟩ := broken_c (σ := σ) (o0 := 25 + i) (o1 := 22) (hl i (by omega)) hd p1 p2
    rcases hb with ⟨hb, hk⟩ | ⟨hb, hk⟩
    · obtain ⟨r, hr, he⟩ := ih (i + 1) (by omega)
      refine ⟨r, fb_next hk hr, fun Q q => ?_⟩
      obtain ⟨fu, hfu⟩ := he Q q
      refine ⟨fu + 1, ⟨fun z => absurd z hlt, fun _ => ⟨vi, ?_⟩⟩⟩
      rw [ci]
      refine hq _ ⟨fun _ x ex => ?_, fun z => absurd hb z⟩
      subst ex
      rw [nI_1]
      exact hfu
    · refine ⟨nI i, fb_here (by omega) hk, fun Q q => ⟨1, ⟨fun z => absurd z hlt, fun _ => ⟨vi, ?_⟩⟩⟩⟩
      rw [ci]
      refine hq _ ⟨fun z => absurd (hb.symm.trans z) (by decide), fun _ => q⟩
set_option maxHeartbeats 1000000 in
theorem bby_loop {μ : St} {n s : Nat} {f g : Nat → Int32} {l : Nat → Nat → Int32} (hs : s < 6) (hn : n ≤ 16) (e3 : μ 0 2 = nI n) (p1 : 1 ≤ (μ 0 7).toInt) (p2 : (μ 0 7).toInt ≤ 60) (hl : ∀ k, k < n → μ 3 k = l k 0 ∧ μ 4 k = l k 1 ∧ μ 5 k = l k 2 ∧ μ 6 k = l k 3 ∧ lawOK (l k)) (hf : ∀ a, a < 8 → μ 1 (8 * s + a) = f a) (hg : ∀ a, a < 8 → μ 2 (8 * s + a) = g a) (hd : drumOK f g) : ∀ (m i : Nat), i + m = n →
    ∃ r : Int32, firstBad (fun k => keepsP f g (l k) (μ 0 7).toInt) i n r ∧ ∀ Q : Int32 → St → Prop, Q r μ → ∃ fu, wl_X10_brokenBy_2 Q (nI s) fu μ (nI i) := by
  intro m
  induction m with
  | zero =>
    intro i hi
    have hle : (μ 0 2) ≤ nI i := by rw [e3]; exact nI_le (by omega) (by omega)
    have ei : i = n := by omega
    rw [ei] at hle ⊢
    exact ⟨-1, fb_end, fun Q q => ⟨1, ⟨fun _ => q, fun z => absurd hle z⟩⟩⟩
  | succ m ih =>
    intro i hi
    have hlt : ¬ (μ 0 2) ≤ nI i := by rw [e3]; exact nI_ge (by omega) (by omega)
    obtain ⟨l0, l1, l2, l3, lo⟩ := hl i (by omega)
    obtain ⟨b, hb, hq⟩ := keeps_m (l := l i) hs (show i < 17 by omega) hf hg hd l0 l1 l2 l3 lo p1 p2
    rcases hb with ⟨hb, hk⟩ | ⟨hb, hk⟩
    · obtain ⟨r, hr, he⟩ := ih (i + 1) (by omega)
      refine ⟨r, fb_next hk hr, fun Q q => ?_⟩
      obtain ⟨fu, hfu⟩ := he Q q
      refine ⟨fu + 1, ⟨fun z => absurd z hlt, fun _ => hq _ ⟨fun _ x ex => ?_, fun z => absurd (hb.symm.trans z) (by decide)⟩⟩⟩
      subst ex
      rw [nI_1]
      exact hfu
    · exact ⟨nI i, fb_here (by omega) hk, fun Q q => ⟨1, ⟨fun z => absurd z hlt, fun _ => hq _ ⟨fun z => absurd hb z, fun _ => q⟩⟩⟩⟩
/-! all drums under one law -/
def allK (d : Nat → (Nat → Int32) × (Nat → Int32)) (l : Nat → Int32) (p : Int) : Prop := ∀ s, s < 6 → keepsP (d s).1 (d s).2 l p
def dS (σ : St) (s : Nat) : (Nat → Int32) × (Nat → Int32) := (σ (5 + 3 * s), σ (6 + 3 * s))
set_option maxHeartbeats 1000000 in
theorem any_loop {σ : St} {k : Nat} (hk : k < 16) {p : Int32} (p1 : 1 ≤ p.toInt) (p2 : p.toInt ≤ 60) (hl : lawOK (σ (25 + k))) (hd : ∀ s, s < 6 → drumOK (σ (5 + 3 * s)) (σ (6 + 3 * s))) : ∀ (m i : Nat), i + m = 6 →
    ∃ r : Int32, ((r = 0 ∧ ∀ s, i ≤ s → s < 6 → keepsP (dS σ s).1 (dS σ s).2 (σ (25 + k)) p.toInt) ∨ (r = 1 ∧ ¬ ∀ s, i ≤ s → s < 6 → keepsP (dS σ s).1 (dS σ s).2 (σ (25 + k)) p.toInt)) ∧ ∀ Q : Int32 → St → Prop, Q r σ → ∃ fu, wl_X3_anyBreaks_2 Q (nI k) p fu σ (nI i) := by
  have ck : (nI k).toNatClampNeg = k := nI_clamp (by omega)
  have vk : vp_in (nI k) 16 := vp_in_nI (by omega) (by decide)
  intro m
  induction m with
  | zero =>
    intro i hi
    have hle : (6 : Int32) ≤ nI i := nI_le (a := 6) (by omega) (by omega)
    exact ⟨0, Or.inl ⟨rfl, fun s h1 h2 => absurd h1 (by omega)⟩, fun Q q => ⟨1, ⟨fun _ => q, fun z => absurd hle z⟩⟩⟩
  | succ m ih =>
    intro i hi
    have hlt : ¬ (6 : Int32) ≤ nI i := nI_ge (b := 6) (by omega) (by omega)
    have ci : (nI i).toNatClampNeg = i := nI_clamp (by omega)
    have vi : vp_in (nI i) 6 := vp_in_nI (by omega) (by decide)
    have e1 : 4 + 3 * i + 1 = 5 + 3 * i := by omega
    have e2 : 4 + 3 * i + 2 = 6 + 3 * i := by omega
    obtain ⟨b, hb, hq⟩ := broken_c (σ := σ) (o0 := 25 + k) (o1 := 4 + 3 * i) hl (by rw [e1, e2]; exact hd i (by omega)) p1 p2
    rw [e1, e2] at hb
    rcases hb with ⟨hb, hk⟩ | ⟨hb, hk⟩
    · obtain ⟨r, hr, he⟩ := ih (i + 1) (by omega)
      have hiff : (∀ s, i ≤ s → s < 6 → keepsP (dS σ s).1 (dS σ s).2 (σ (25 + k)) p.toInt) ↔ (∀ s, i + 1 ≤ s → s < 6 → keepsP (dS σ s).1 (dS σ s).2 (σ (25 + k)) p.toInt) := by
        refine ⟨fun z s h1 h2 => z s (by omega) h2, fun z s h1 h2 => ?_⟩
        by_cases y : s = i
        · rw [y]; exact hk
        · exact z s (by omega) h2
      refine ⟨r, ?_, fun Q q => ?_⟩
      · rw [hiff]; exact hr
      · obtain ⟨fu, hfu⟩ := he Q q
        refine ⟨fu + 1, ⟨fun z => absurd z hlt, fun _ => ⟨vk, vi, ?_⟩⟩⟩
        rw [ci, ck]
        refine hq _ ⟨fun _ x ex => ?_, fun z => absurd hb z⟩
        subst ex
        rw [nI_1]
        exact hfu
    · refine ⟨1, Or.inr ⟨rfl, fun z => hk (z i (Nat.le_refl _) (by omega))⟩, fun Q q => ⟨1, ⟨fun z => absurd z hlt, fun _ => ⟨vk, vi, ?_⟩⟩⟩⟩
      rw [ci, ck]
      exact hq _ ⟨fun z => absurd (hb.symm.trans z) (by decide), fun _ => q⟩
theorem any_c {σ : St} {k : Nat} (hk : k < 16) {p : Int32} (p1 : 1 ≤ p.toInt) (p2 : p.toInt ≤ 60) (hl : lawOK (σ (25 + k))) (hd : ∀ s, s < 6 → drumOK (σ (5 + 3 * s)) (σ (6 + 3 * s))) :
    ∃ r : Int32, ((r = 0 ∧ allK (dS σ) (σ (25 + k)) p.toInt) ∨ (r = 1 ∧ ¬ allK (dS σ) (σ (25 + k)) p.toInt)) ∧ ∀ Q : Int32 → St → Prop, Q r σ → wp_X3_anyBreaks Q (nI k) p σ := by
  obtain ⟨r, hr, he⟩ := any_loop hk p1 p2 hl hd 6 0 rfl
  have hiff : allK (dS σ) (σ (25 + k)) p.toInt ↔ ∀ s, 0 ≤ s → s < 6 → keepsP (dS σ s).1 (dS σ s).2 (σ (25 + k)) p.toInt := ⟨fun z s _ h => z s h, fun z s h => z s (Nat.zero_le _) h⟩
  refine ⟨r, ?_, fun Q q => he Q q⟩
  rw [hiff]
  exact hr
set_option maxHeartbeats 1000000 in
theorem bat_loop {σ : St} {n : Nat} (hn : n ≤ 16) (e3 : σ 1 3 = nI n) {p : Int32} (p1 : 1 ≤ p.toInt) (p2 : p.toInt ≤ 60) (hl : ∀ k, k < n → lawOK (σ (25 + k))) (hd : ∀ s, s < 6 → drumOK (σ (5 + 3 * s)) (σ (6 + 3 * s))) : ∀ (m i : Nat), i + m = n →
    ∃ r : Int32, firstBad (fun k => allK (dS σ) (σ (25 + k)) p.toInt) i n r ∧ ∀ Q : Int32 → St → Prop, Q r σ → ∃ fu, wl_X3_brokenAt_2 Q p fu σ (nI i) := by
  intro m
  induction m with
  | zero =>
    intro i hi
    have hle : (σ 1 3) ≤ nI i := by rw [e3]; exact nI_le (by omega) (by omega)
    have ei : i = n := by omega
    rw [ei] at hle ⊢
    exact ⟨-1, fb_end, fun Q q => ⟨1, ⟨fun _ => q, fun z => absurd hle z⟩⟩⟩
  | succ m ih =>
    intro i hi
    have hlt : ¬ (σ 1 3) ≤ nI i := by rw [e3]; exact nI_ge (by omega) (by omega)
    obtain ⟨b, hb, hq⟩ := any_c (σ := σ) (k := i) (by omega) p1 p2 (hl i (by omega)) hd
    rcases hb with ⟨hb, hk⟩ | ⟨hb, hk⟩
    · obtain ⟨r, hr, he⟩ := ih (i + 1) (by omega)
      refine ⟨r, fb_next hk hr, fun Q q => ?_⟩
      obtain ⟨fu, hfu⟩ := he Q q
      refine ⟨fu + 1, ⟨fun z => absurd z hlt, fun _ => hq _ ⟨fun _ x ex => ?_, fun z => absurd hb z⟩⟩⟩
      subst ex
      rw [nI_1]
      exact hfu
    · exact ⟨nI i, fb_here (by omega) hk, fun Q q => ⟨1, ⟨fun z => absurd z hlt, fun _ => hq _ ⟨fun z => absurd (hb.symm.trans z) (by decide), fun _ => q⟩⟩⟩⟩
/-- the reference's drums are the class's -/
def mD (μ : St) (d : Nat → (Nat → Int32) × (Nat → Int32)) : Prop := (∀ s a, s < 6 → a < 8 → (d s).1 a = μ 1 (8 * s + a) ∧ (d s).2 a = μ 2 (8 * s + a)) ∧ ∀ s, s < 6 → drumOK (d s).1 (d s).2
def mL1 (μ : St) (k : Nat) (l : Nat → Int32) : Prop := μ 3 k = l 0 ∧ μ 4 k = l 1 ∧ μ 5 k = l 2 ∧ μ 6 k = l 3 ∧ lawOK l
set_option maxHeartbeats 1000000 in
theorem batm_in {μ : St} {d : Nat → (Nat → Int32) × (Nat → Int32)} (hd : mD μ d) {k : Nat} (hk : k < 17) {l : Nat → Int32} (hl : mL1 μ k l) {p : Int32} (p1 : 1 ≤ p.toInt) (p2 : p.toInt ≤ 60) (L2 : St → Int32 → Prop) (Q : Int32 → St → Prop) : ∀ (m i : Nat), i + m = 6 →
    ((∀ s, i ≤ s → s < 6 → keepsP (d s).1 (d s).2 l p.toInt) → L2 μ (nI (k + 1)) → ∃ fu, wl_X10_brokenAt_12 Q L2 p (nI k) fu μ (nI i)) ∧ ((¬ ∀ s, i ≤ s → s < 6 → keepsP (d s).1 (d s).2 l p.toInt) → Q (nI k) μ → ∃ fu, wl_X10_brokenAt_12 Q L2 p (nI k) fu μ (nI i)) := by
  obtain ⟨l0, l1, l2, l3, lo⟩ := hl
  intro m
  induction m with
  | zero =>
    intro i hi
    have hle : (6 : Int32) ≤ nI i := nI_le (a := 6) (by omega) (by omega)
    refine ⟨fun _ q => ⟨1, ⟨fun _ x ex => ?_, fun z => absurd hle z⟩⟩, fun z => absurd (fun s h1 h2 => absurd h1 (by omega)) z⟩
    subst ex
    rw [nI_1]
    exact q
  | succ m ih =>
    intro i hi
    have hlt : ¬ (6 : Int32) ≤ nI i := nI_ge (b := 6) (by omega) (by omega)
    obtain ⟨b, hb, hq⟩ := keeps_m (l := l) (show i < 6 by omega) hk (fun a ha => (hd.1 i a (by omega) ha).1.symm) (fun a ha => (hd.1 i a (by omega) ha).2.symm) (hd.2 i (by omega)) l0 l1 l2 l3 lo p1 p2
    rcases hb with ⟨hb, hkk⟩ | ⟨hb, hkk⟩
    · obtain ⟨ih1, ih2⟩ := ih (i + 1) (by omega)
      have hiff : (∀ s, i ≤ s → s < 6 → keepsP (d s).1 (d s).2 l p.toInt) ↔ (∀ s, i + 1 ≤ s → s < 6 → keepsP (d s).1 (d s).2 l p.toInt) := by
        refine ⟨fun z s h1 h2 => z s (by omega) h2, fun z s h1 h2 => ?_⟩
        by_cases y : s = i
        · rw [y]; exact hkk
        · exact z s (by omega) h2
      rw [hiff]
      refine ⟨fun z q => ?_, fun z q => ?_⟩
      · obtain ⟨fu, hfu⟩ := ih1 z q
        refine ⟨fu + 1, ⟨fun z => absurd z hlt, fun _ => hq _ ⟨fun _ x ex => ?_, fun z => absurd (hb.symm.trans z) (by decide)⟩⟩⟩
        subst ex
        rw [nI_1]
        exact hfu
      · obtain ⟨fu, hfu⟩ := ih2 z q
        refine ⟨fu + 1, ⟨fun z => absurd z hlt, fun _ => hq _ ⟨fun _ x ex => ?_, fun z => absurd (hb.symm.trans z) (by decide)⟩⟩⟩
        subst ex
        rw [nI_1]
        exact hfu
    · exact ⟨fun z => absurd (z i (Nat.le_refl _) (by omega)) hkk, fun _ q => ⟨1, ⟨fun z => absurd z hlt, fun _ => hq _ ⟨fun z => absurd hb z, fun _ => q⟩⟩⟩⟩
theorem allK_0 {d : Nat → (Nat → Int32) × (Nat → Int32)} {l : Nat → Int32} {p : Int} : allK d l p ↔ ∀ s, 0 ≤ s → s < 6 → keepsP (d s).1 (d s).2 l p := ⟨fun z s _ h => z s h, fun z s h => z s (Nat.zero_le _) h⟩
set_option maxHeartbeats 1000000 in
theorem batm_loop {μ : St} {d : Nat → (Nat → Int32) × (Nat → Int32)} (hd : mD μ d) {n : Nat} (hn : n ≤ 16) (e3 : μ 0 2 = nI n) {l : Nat → Nat → Int32} (hl : ∀ k, k < n → mL1 μ k (l k)) {p : Int32} (p1 : 1 ≤ p.toInt) (p2 : p.toInt ≤ 60) : ∀ (m i : Nat), i + m = n →
    ∃ r : Int32, firstBad (fun k => allK d (l k) p.toInt) i n r ∧ ∀ Q : Int32 → St → Prop, Q r μ → ∃ fu, wl_X10_brokenAt_2 Q p fu μ (nI i) := by
  intro m
  induction m with
  | zero =>
    intro i hi
    have hle : (μ 0 2) ≤ nI i := by rw [e3]; exact nI_le (by omega) (by omega)
    have ei : i = n := by omega
    rw [ei] at hle ⊢
    exact ⟨-1, fb_end, fun Q q => ⟨1, ⟨fun _ => q, fun z => absurd hle z⟩⟩⟩
  | succ m ih =>
    intro i hi
    have hlt : ¬ (μ 0 2) ≤ nI i := by rw [e3]; exact nI_ge (by omega) (by omega)
    by_cases hk : allK d (l i) p.toInt
    · obtain ⟨r, hr, he⟩ := ih (i + 1) (by omega)
      refine ⟨r, fb_next hk hr, fun Q q => ?_⟩
      obtain ⟨fu, hfu⟩ := he Q q
      exact ⟨fu + 1, ⟨fun z => absurd z hlt, fun _ => (batm_in hd (show i < 17 by omega) (hl i (by omega)) p1 p2 (wl_X10_brokenAt_2 Q p fu) Q 6 0 rfl).1 (allK_0.mp hk) hfu⟩⟩
    · exact ⟨nI i, fb_here (by omega) hk, fun Q q => ⟨1, ⟨fun z => absurd z hlt, fun _ => (batm_in hd (show i < 17 by omega) (hl i (by omega)) p1 p2 (wl_X10_brokenAt_2 Q p 0) Q 6 0 rfl).2 (fun z => hk (allK_0.mpr z)) q⟩⟩⟩
