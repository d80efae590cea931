/-! THE RELATION between the class's state and the reference's -/
def deg (x : Int32) : Prop := 0 ≤ x.toInt ∧ x.toInt ≤ 359
def rG (σ μ : St) : Prop := (∀ j, j < 6 → σ 78 j = μ 13 j ∧ vp_in (σ 78 j) 4) ∧ (∀ j, j < 4 → σ 79 j = μ 15 j ∧ 100 ≤ (σ 79 j).toInt ∧ (σ 79 j).toInt ≤ 900) ∧ (∀ j, j < 4 → σ 80 j = μ 16 j)
def rS (σ μ : St) : Prop := (∀ j, j < 7 → σ 81 j = μ 29 j) ∧ σ 0 9 = μ 0 29 ∧ σ 0 10 = μ 0 30 ∧ (σ 0 11 = μ 0 26 ∧ 100 ≤ (σ 0 11).toInt ∧ (σ 0 11).toInt ≤ 900) ∧ (σ 0 12 = μ 0 27 ∧ -200 ≤ (σ 0 12).toInt ∧ (σ 0 12).toInt ≤ 200) ∧ σ 0 13 = μ 0 28 ∧ σ 0 14 = μ 0 31
def rM (σ μ : St) : Prop := (∀ j, j < 30 → σ 58 j = μ 17 j ∧ σ 59 j = μ 18 j ∧ σ 60 j = μ 19 j ∧ (σ 60 j = 0 ∨ σ 60 j = 1) ∧ σ 61 j = μ 20 j ∧ σ 62 j = μ 21 j) ∧ (∀ j, j < 6 → σ 63 j = μ 14 j ∧ vp_in (σ 63 j) 30)
def rO (σ μ : St) : Prop := ∃ n t : Nat, n ≤ 6 ∧ σ 55 2 = nI n ∧ μ 0 14 = nI n ∧ σ 55 1 = nI t ∧ μ 0 16 = nI t ∧ (t < n ∨ (n = 0 ∧ t = 0)) ∧ (∀ j, j < 6 → σ 56 j = μ 12 j) ∧ (∀ j, j < n → vp_in (σ 56 j) 6) ∧ (∀ i j, i < n → j < n → σ 56 i = σ 56 j → i = j)
def bOK (c : Nat → Int32) : Prop := vp_in (c 2) 30 ∧ vp_in (c 6) 5 ∧ 100 ≤ (c 4).toInt ∧ (c 4).toInt ≤ 900 ∧ -500 ≤ (c 5).toInt ∧ (c 5).toInt ≤ 1500
def rB (σ μ : St) : Prop := ∃ e n : Nat, e < 12 ∧ n ≤ 12 ∧ σ 64 1 = nI e ∧ σ 64 2 = nI n ∧ μ 0 32 = nI n ∧ ∀ k, k < n → σ (66 + (e + k) % 12) 0 = μ 22 k ∧ σ (66 + (e + k) % 12) 1 = μ 23 k ∧ σ (66 + (e + k) % 12) 2 = μ 24 k ∧ σ (66 + (e + k) % 12) 3 = μ 25 k ∧ σ (66 + (e + k) % 12) 5 = μ 26 k ∧ σ (66 + (e + k) % 12) 4 = μ 27 k ∧ σ (66 + (e + k) % 12) 6 = μ 28 k ∧ bOK (σ (66 + (e + k) % 12))
/-- for how many degrees act a is done; is it done at d -/
def lenP (f g : Nat → Int32) (a : Nat) : Int := ((g a).toInt - (f a).toInt) % 360
def doneP (f g : Nat → Int32) (a : Nat) (d : Int) : Prop := (d - (f a).toInt) % 360 < lenP f g a
def keepsP (f g l : Nat → Int32) (p : Int) : Prop :=
  (l 0 = 0 → (l 3).toInt ≤ ((f (l 2).toNatClampNeg).toInt - (g (l 1).toNatClampNeg).toInt) % 360) ∧
  (l 0 = 1 → ∀ d : Int, 0 ≤ d → d < 360 → doneP f g (l 1).toNatClampNeg d → ¬ doneP f g (l 2).toNatClampNeg d) ∧
  (l 0 = 2 → 3 * p * (l 3).toInt ≤ 500 * lenP f g (l 1).toNatClampNeg) ∧
  (l 0 = 3 → ∀ d : Int, 0 ≤ d → d < 360 → doneP f g (l 1).toNatClampNeg d → doneP f g (l 2).toNatClampNeg d)
def lawOK (l : Nat → Int32) : Prop := vp_in (l 0) 4 ∧ vp_in (l 1) 8 ∧ vp_in (l 2) 8 ∧ 0 ≤ (l 3).toInt ∧ (l 3).toInt ≤ 60000
def drumOK (f g : Nat → Int32) : Prop := ∀ a, a < 8 → deg (f a) ∧ deg (g a) ∧ f a ≠ g a
def rD (σ μ : St) : Prop := ∃ n : Nat, n ≤ 16 ∧ σ 1 3 = nI n ∧ μ 0 2 = nI n ∧ σ 1 4 = μ 0 7 ∧ 1 ≤ (σ 1 4).toInt ∧ (σ 1 4).toInt ≤ 60 ∧
  (∀ s a, s < 6 → a < 8 → σ (5 + 3 * s) a = μ 1 (8 * s + a) ∧ σ (6 + 3 * s) a = μ 2 (8 * s + a)) ∧ (∀ s, s < 6 → drumOK (σ (5 + 3 * s)) (σ (6 + 3 * s))) ∧
  (∀ k, k < n → σ (25 + k) 0 = μ 3 k ∧ σ (25 + k) 1 = μ 4 k ∧ σ (25 + k) 2 = μ 5 k ∧ σ (25 + k) 3 = μ 6 k ∧ lawOK (σ (25 + k))) ∧
  (∀ k s, k < n → s < 6 → keepsP (σ (5 + 3 * s)) (σ (6 + 3 * s)) (σ (25 + k)) (σ 1 4).toInt)
/-- the knots of arm i (3: those told) are the class's at cell 43 + 3 pm i, ct i of them -/
def rA (σ μ : St) : Prop := ∃ pm ct : Nat → Nat, (∀ i, i < 4 → pm i < 4) ∧ (∀ i j, i < 4 → j < 4 → pm i = pm j → i = j) ∧ (∀ i, i < 3 → σ 42 i = nI (43 + 3 * pm i)) ∧ σ 41 1 = nI (43 + 3 * pm 3) ∧
  (∀ i, i < 3 → 1 ≤ ct i) ∧ (∀ i, i < 4 → ct i ≤ 6 ∧ σ (43 + 3 * pm i) 2 = nI (ct i)) ∧ (∀ i, i < 3 → μ 7 i = nI (ct i)) ∧ μ 0 11 = nI (ct 3) ∧
  (∀ i k, i < 3 → k < ct i → σ (44 + 3 * pm i) k = μ 8 (6 * i + k) ∧ σ (45 + 3 * pm i) k = μ 9 (6 * i + k)) ∧ (∀ k, k < ct 3 → σ (44 + 3 * pm 3) k = μ 10 k ∧ σ (45 + 3 * pm 3) k = μ 11 k) ∧
  (∀ i k, i < 4 → k < ct i → deg (σ (44 + 3 * pm i) k) ∧ 0 ≤ (σ (45 + 3 * pm i) k).toInt ∧ (σ (45 + 3 * pm i) k).toInt ≤ 1000) ∧
  (∀ i k, i < 4 → k + 1 < ct i → (σ (44 + 3 * pm i) k).toInt < (σ (44 + 3 * pm i) (k + 1)).toInt)
def RR (σ μ : St) : Prop := rG σ μ ∧ rS σ μ ∧ rM σ μ ∧ rO σ μ ∧ rB σ μ ∧ rD σ μ ∧ rA σ μ
section Congr
variable {σ σ' μ μ' : St}
theorem rG_c (e1 : σ' 78 = σ 78) (e2 : σ' 79 = σ 79) (e3 : σ' 80 = σ 80) (f1 : μ' 13 = μ 13) (f2 : μ' 15 = μ 15) (f3 : μ' 16 = μ 16) (h : rG σ μ) : rG σ' μ' := by
  unfold rG at h ⊢
  rw [e1, e2, e3, f1, f2, f3]
  exact h
theorem rS_c (e1 : σ' 81 = σ 81) (a1 : σ' 0 9 = σ 0 9) (a2 : σ' 0 10 = σ 0 10) (a3 : σ' 0 11 = σ 0 11) (a4 : σ' 0 12 = σ 0 12) (a5 : σ' 0 13 = σ 0 13) (a6 : σ' 0 14 = σ 0 14) (f1 : μ' 29 = μ 29) (b1 : μ' 0 29 = μ 0 29) (b2 : μ' 0 30 = μ 0 30) (b3 : μ' 0 26 = μ 0 26) (b4 : μ' 0 27 = μ 0 27) (b5 : μ' 0 28 = μ 0 28) (b6 : μ' 0 31 = μ 0 31) (h : rS σ μ) : rS σ' μ' := by
  unfold rS at h ⊢
  rw [e1, a1, a2, a3, a4, a5, a6, f1, b1, b2, b3, b4, b5, b6]
  exact h
theorem rM_c (e1 : σ' 58 = σ 58) (e2 : σ' 59 = σ 59) (e3 : σ' 60 = σ 60) (e4 : σ' 61 = σ 61) (e5 : σ' 62 = σ 62) (e6 : σ' 63 = σ 63) (f1 : μ' 17 = μ 17) (f2 : μ' 18 = μ 18) (f3 : μ' 19 = μ 19) (f4 : μ' 20 = μ 20) (f5 : μ' 21 = μ 21) (f6 : μ' 14 = μ 14) (h : rM σ μ) : rM σ' μ' := by
  unfold rM at h ⊢
  rw [e1, e2, e3, e4, e5, e6, f1, f2, f3, f4, f5, f6]
  exact h
theorem rO_c (e1 : σ' 55 = σ 55) (e2 : σ' 56 = σ 56) (b1 : μ' 0 14 = μ 0 14) (b2 : μ' 0 16 = μ 0 16) (f1 : μ' 12 = μ 12) (h : rO σ μ) : rO σ' μ' := by
  unfold rO at h ⊢
  rw [e1, e2, b1, b2, f1]
  exact h
theorem rB_c (e1 : σ' 64 = σ 64) (e2 : ∀ i, 66 ≤ i → i < 78 → σ' i = σ i) (b1 : μ' 0 32 = μ 0 32) (f : ∀ i, 22 ≤ i → i < 29 → μ' i = μ i) (h : rB σ μ) : rB σ' μ' := by
  obtain ⟨e, n, h1, h2, h3, h4, h5, h6⟩ := h
  refine ⟨e, n, h1, h2, by rw [e1]; exact h3, by rw [e1]; exact h4, by rw [b1]; exact h5, fun k hk => ?_⟩
  have hc : (e + k) % 12 < 12 := Nat.mod_lt _ (by decide)
  rw [e2 _ (by omega) (by omega), f 22 (by omega) (by omega), f 23 (by omega) (by omega), f 24 (by omega) (by omega), f 25 (by omega) (by omega), f 26 (by omega) (by omega), f 27 (by omega) (by omega), f 28 (by omega) (by omega)]
  exact h6 k hk
theorem rD_c (e : ∀ i, 1 ≤ i → i < 41 → i ≠ 22 → i ≠ 23 → i ≠ 24 → σ' i = σ i) (b1 : μ' 0 2 = μ 0 2) (b2 : μ' 0 7 = μ 0 7) (f : ∀ i, 1 ≤ i → i < 7 → μ' i = μ i) (h : rD σ μ) : rD σ' μ' := by
  obtain ⟨n, h1, h2, h3, h4, h5, h6, h7, h8, h9, h10⟩ := h
  have e1 : σ' 1 = σ 1 := e 1 (by omega) (by omega) (by omega) (by omega) (by omega)
  refine ⟨n, h1, by rw [e1]; exact h2, by rw [b1]; exact h3, by rw [e1, b2]; exact h4, by rw [e1]; exact h5, by rw [e1]; exact h6, fun s a hs ha => ?_, fun s hs => ?_, fun k hk => ?_, fun k s hk hs => ?_⟩
  · rw [e (5 + 3 * s) (by omega) (by omega) (by omega) (by omega) (by omega), e (6 + 3 * s) (by omega) (by omega) (by omega) (by omega) (by omega), f 1 (by omega) (by omega), f 2 (by omega) (by omega)]
    exact h7 s a hs ha
  · rw [e (5 + 3 * s) (by omega) (by omega) (by omega) (by omega) (by omega), e (6 + 3 * s) (by omega) (by omega) (by omega) (by omega) (by omega)]
    exact h8 s hs
  · rw [e (25 + k) (by omega) (by omega) (by omega) (by omega) (by omega), f 3 (by omega) (by omega), f 4 (by omega) (by omega), f 5 (by omega) (by omega), f 6 (by omega) (by omega)]
    exact h9 k hk
  · rw [e (5 + 3 * s) (by omega) (by omega) (by omega) (by omega) (by omega), e (6 + 3 * s) (by omega) (by omega) (by omega) (by omega) (by omega), e (25 + k) (by omega) (by omega) (by omega) (by omega) (by omega), e1]
    exact h10 k s hk hs
theorem rA_c (e : ∀ i, 41 ≤ i → i < 55 → σ' i = σ i) (b1 : μ' 0 11 = μ 0 11) (f : ∀ i, 7 ≤ i → i < 12 → μ' i = μ i) (h : rA σ μ) : rA σ' μ' := by
  obtain ⟨pm, ct, h1, h2, h3, h4, h5, h6, h7, h8, h9, h10, h11, h12⟩ := h
  refine ⟨pm, ct, h1, h2, fun i hi => ?_, ?_, h5, fun i hi => ?_, fun i hi => ?_, ?_, fun i k hi hk => ?_, fun k hk => ?_, fun i k hi hk => ?_, fun i k hi hk => ?_⟩
  · rw [e 42 (by omega) (by omega)]; exact h3 i hi
  · rw [e 41 (by omega) (by omega)]; exact h4
  · have := h1 i hi
    rw [e _ (by omega) (by omega)]; exact h6 i hi
  · rw [f 7 (by omega) (by omega)]; exact h7 i hi
  · rw [b1]; exact h8
  · have := h1 i (by omega)
    rw [e (44 + 3 * pm i) (by omega) (by omega), e (45 + 3 * pm i) (by omega) (by omega), f 8 (by omega) (by omega), f 9 (by omega) (by omega)]; exact h9 i k hi hk
  · have := h1 3 (by omega)
    rw [e (44 + 3 * pm 3) (by omega) (by omega), e (45 + 3 * pm 3) (by omega) (by omega), f 10 (by omega) (by omega), f 11 (by omega) (by omega)]; exact h10 k hk
  · have := h1 i (by omega)
    rw [e (44 + 3 * pm i) (by omega) (by omega), e (45 + 3 * pm i) (by omega) (by omega)]; exact h11 i k hi hk
  · have := h1 i (by omega)
    rw [e (44 + 3 * pm i) (by omega) (by omega)]; exact h12 i k hi hk
end Congr
