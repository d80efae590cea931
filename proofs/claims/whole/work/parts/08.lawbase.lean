/-! THE LAW: two worlds side by side -/
theorem va_D_map {A : Nat → Prop} {w w' : va_W} (e : w.map Prod.fst = w'.map Prod.fst) (h : va_D A w) : va_D A w' := by
  have key : ∀ (k : Nat) (q : Nat × va_E), w'[k]? = some q → ∃ q', w[k]? = some q' ∧ q'.1 = q.1 := by
    intro k q hq
    have h1 : (w'.map Prod.fst)[k]? = some q.1 := by rw [List.getElem?_map, hq]; rfl
    rw [← e, List.getElem?_map] at h1
    cases hw : w[k]? with
    | none => rw [hw] at h1; cases h1
    | some q' => rw [hw] at h1; exact ⟨q', rfl, Option.some.inj h1⟩
  refine ⟨fun i j p q hi hj hpq => ?_, fun k q hk => ?_⟩
  · obtain ⟨p', h1, e1⟩ := key i p hi
    obtain ⟨q', h2, e2⟩ := key j q hj
    exact h.1 i j p' q' h1 h2 (by rw [e1, e2, hpq])
  · obtain ⟨q', h1, e1⟩ := key k q hk
    rw [← e1]
    exact h.2 k q' h1
theorem wsl_fst {X : wX} {kL : List Nat} {σ : St} : (wsl X kL σ).map Prod.fst = (List.range kL.length).map X.2.1 := by
  unfold wsl
  rw [List.map_map]
  rfl
theorem va_D_l {A : Nat → Prop} {a b : va_W} (h : va_D A (a ++ b)) : va_D A a :=
  ⟨fun i j p q hi hj hpq => h.1 i j p q (by rw [List.getElem?_append_left (List.getElem?_eq_some_iff.mp hi).1]; exact hi) (by rw [List.getElem?_append_left (List.getElem?_eq_some_iff.mp hj).1]; exact hj) hpq, fun k q hk => h.2 k q (by rw [List.getElem?_append_left (List.getElem?_eq_some_iff.mp hk).1]; exact hk)⟩
theorem app_r {a b : va_W} {k : Nat} {q : Nat × va_E} (h : b[k]? = some q) : (a ++ b)[a.length + k]? = some q := by
  rw [List.getElem?_append_right (by omega), show a.length + k - a.length = k by omega]
  exact h
theorem va_D_r {A : Nat → Prop} {a b : va_W} (h : va_D A (a ++ b)) : va_D A b :=
  ⟨fun i j p q hi hj hpq => by have := h.1 _ _ p q (app_r hi) (app_r hj) hpq; omega, fun k q hk => h.2 _ q (app_r hk)⟩
theorem va_D_x {A : Nat → Prop} {a b : va_W} (h : va_D A (a ++ b)) {i j : Nat} {p q : Nat × va_E} (hi : a[i]? = some p) (hj : b[j]? = some q) : p.1 ≠ q.1 := by
  intro e
  have hl := (List.getElem?_eq_some_iff.mp hi).1
  have := h.1 i _ p q (by rw [List.getElem?_append_left hl]; exact hi) (app_r hj) e
  omega
def gL (X : wX) (ay : Nat → Nat) (A : Nat → Prop) (H0 : Heap) (σ μ : St) (H : Heap) (locs : List Loc) : Prop :=
  va_P X.1 vwCl (wsl X kcL σ) H ∧ va_P X.1 vwCl (wsl (X.1, ay, X.2.2) kmL μ) H ∧ va_D A (wsl X kcL σ ++ wsl (X.1, ay, X.2.2) kmL μ) ∧ va_S A H0 H locs ∧ ∀ q, H0.size ≤ q → A q
section LawB
variable {X : wX} {ay : Nat → Nat} {A : Nat → Prop} {H0 H H1 : Heap} {σ μ τ : St} {locs locs1 : List Loc}
theorem gL.c (h : gL X ay A H0 σ μ H locs) : gW X kcL A H0 σ H locs := ⟨h.1, va_D_l h.2.2.1, h.2.2.2.1, h.2.2.2.2⟩
theorem gL.m (h : gL X ay A H0 σ μ H locs) : gW (X.1, ay, X.2.2) kmL A H0 μ H locs := ⟨h.2.1, va_D_r h.2.2.1, h.2.2.2.1, h.2.2.2.2⟩
theorem gL.afterC (h : gL X ay A H0 σ μ H locs) (hP : va_P X.1 vwCl (wsl X kcL τ) H1) (hk : ∀ q : Nat, q < H.size → ¬ va_A (wsl X kcL σ) H.size q → H1[q]? = H[q]?) (hS : va_S A H0 H1 locs1) : gL X ay A H0 τ μ H1 locs1 := by
  refine ⟨hP, h.2.1.kept (fun k q hq => ?_), va_D_map ?_ h.2.2.1, hS, h.2.2.2.2⟩
  · refine hk q.1 (h.2.1 k q hq).lt (fun z => ?_)
    rcases z with ⟨i, e, hi⟩ | z
    · exact va_D_x h.2.2.1 hi hq rfl
    · exact absurd (h.2.1 k q hq).lt (by omega)
  · rw [List.map_append, List.map_append, wsl_fst, wsl_fst, wsl_fst]
theorem gL.afterM (h : gL X ay A H0 σ μ H locs) (hP : va_P X.1 vwCl (wsl (X.1, ay, X.2.2) kmL τ) H1) (hk : ∀ q : Nat, q < H.size → ¬ va_A (wsl (X.1, ay, X.2.2) kmL μ) H.size q → H1[q]? = H[q]?) (hS : va_S A H0 H1 locs1) : gL X ay A H0 σ τ H1 locs1 := by
  refine ⟨h.1.kept (fun k q hq => ?_), hP, va_D_map ?_ h.2.2.1, hS, h.2.2.2.2⟩
  · refine hk q.1 (h.1 k q hq).lt (fun z => ?_)
    rcases z with ⟨i, e, hi⟩ | z
    · exact va_D_x h.2.2.1 hq hi rfl
    · exact absurd (h.1 k q hq).lt (by omega)
  · rw [List.map_append, List.map_append, wsl_fst, wsl_fst, wsl_fst]
variable {p : Program} {l : Launch} {e : Env} {R : Room} {s : State} {m : MethodId} {args : Array Value} {below : List Frame} {meth : Method} {c : Code} {cells slots : Nat} {Q : State → Prop} {pc : Nat} {ls : Array Slot} {rest st0 : List Value} {a : Array Value}
theorem l_callC (hG : gL X ay A H0 σ μ H locs) {Qp : Int32 → St → Prop} (hr : va_Run p l e R s m args below meth c H locs cells slots 0 0 (F0 m pc ls st0) rest (va_Qi Qp (fun τ t => va_P X.1 vwCl (wsl X kcL τ) t.heap) (va_A (wsl X kcL σ) H.size) a) (va_A (wsl X kcL σ) H.size))
    (kk : ∀ (r : Int32) (τ : St) (H1 : Heap) (locs1 : List Loc), Qp r τ → gL X ay A H0 τ μ H1 locs1 → W p l e R s m args below meth c H1 locs1 cells slots Q (F0 m (pc + 3) ls (.int r :: rest))) : W p l e R s m args below meth c H locs cells slots Q (F0 m pc ls st0) :=
  va_calli hr hG.2.2.2.1 (fun q _ h => gA hG.c q h) (gA hG.c) (fun r u t H1 locs1 ht _ hw hB _ hk hS => kk r u H1 locs1 hw (hG.afterC (by rw [← ht]; exact hB) hk hS))
theorem l_callM (hG : gL X ay A H0 σ μ H locs) {Qp : Int32 → St → Prop} (hr : va_Run p l e R s m args below meth c H locs cells slots 0 0 (F0 m pc ls st0) rest (va_Qi Qp (fun τ t => va_P X.1 vwCl (wsl (X.1, ay, X.2.2) kmL τ) t.heap) (va_A (wsl (X.1, ay, X.2.2) kmL μ) H.size) a) (va_A (wsl (X.1, ay, X.2.2) kmL μ) H.size))
    (kk : ∀ (r : Int32) (τ : St) (H1 : Heap) (locs1 : List Loc), Qp r τ → gL X ay A H0 σ τ H1 locs1 → W p l e R s m args below meth c H1 locs1 cells slots Q (F0 m (pc + 3) ls (.int r :: rest))) : W p l e R s m args below meth c H locs cells slots Q (F0 m pc ls st0) :=
  va_calli hr hG.2.2.2.1 (fun q _ h => gA hG.m q h) (gA hG.m) (fun r u t H1 locs1 ht _ hw hB _ hk hS => kk r u H1 locs1 hw (hG.afterM (by rw [← ht]; exact hB) hk hS))
/-- an int of the script -/
theorem l_sld {cc : ByteArray} (hx : p.tables.exec = Jvm.exec) (hb : c.code = cc) {b L : Nat} {xs : Nat → Int32} (hX : va_X b L xs s H0) (hbl : b < H0.size) (hbA : ¬ A b) (hG : gL X ay A H0 σ μ H locs) {i : Int32} {k : Nat} (hi : i = nI k) (hk : k < L) (hL : L ≤ 2560) (hdg : decode cc pc = .ok (.iaload, 1))
    (kk : W p l e R s m args below meth c H locs cells slots Q (F0 m (pc + 1) ls (.int (xs k) :: rest))) : W p l e R s m args below meth c H locs cells slots Q (F0 m pc ls (.int i :: .ref b :: rest)) := by
  subst hi
  refine va_sld hx hb hX hbl hbA hG.2.2.2.1 (vp_in_nI hk (by omega)) hdg ?_
  rw [nI_clamp (by omega)]
  exact kk
end LawB
