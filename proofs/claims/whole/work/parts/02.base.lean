/-! THE STATE: cell i of an object graph holds the ints σ i 0, σ i 1 ..; what kind of cell it is stands in a list of kinds -/
abbrev St : Type := Nat → Nat → Int32
abbrev wX : Type := va_G × (Nat → Nat) × (Nat → ClassId)
def up2 (σ : St) (i j : Nat) (x : Int32) : St := fun a => if a = i then upd (σ i) j x else σ a
def tysX (X : wX) : List (ClassId × FieldType) := [(X.2.2 0, .int), (X.2.2 1, .boolean), (X.2.2 2, .object RX2), (X.2.2 3, .object RX8), (X.2.2 4, .object RX4), (X.2.2 5, .object RX1)]
/-- what cell i is, by its kind: 0 to 10 an object of that class, 100 + n ints, 200 + n booleans, 300 .. rows of references -/
def CE (X : wX) (kL : List Nat) (i : Nat) (r : Nat → Int32) : va_E :=
  if kL.getD i 999 = 0 then .inr (0, [.ref (X.2.1 65), .int (r 1), .int (r 2)])
  else if kL.getD i 999 = 1 then .inr (1, [.int (r 0), .int (r 1), .int (r 2), .int (r 3), .int (r 4), .int (r 5), .int (r 6)])
  else if kL.getD i 999 = 2 then .inr (2, [.ref (X.2.1 (i + 1)), .ref (X.2.1 (i + 2))])
  else if kL.getD i 999 = 3 then .inr (3, [.ref (X.2.1 2), .ref (X.2.1 3), .ref (X.2.1 22), .int (r 3), .int (r 4)])
  else if kL.getD i 999 = 4 then .inr (4, [.ref (X.2.1 (i + 1)), .ref (X.2.1 (i + 2)), .int (r 2)])
  else if kL.getD i 999 = 5 then .inr (5, [.ref (X.2.1 58), .ref (X.2.1 59), .ref (X.2.1 60), .ref (X.2.1 61), .ref (X.2.1 62), .ref (X.2.1 63)])
  else if kL.getD i 999 = 6 then .inr (6, [.ref (X.2.1 56), .int (r 1), .int (r 2)])
  else if kL.getD i 999 = 7 then .inr (7, [.ref (X.2.1 42), .ref (X.2.1 (r 1).toNatClampNeg)])
  else if kL.getD i 999 = 8 then .inr (8, [.int (r 0), .int (r 1), .int (r 2), .int (r 3)])
  else if kL.getD i 999 = 9 then .inr (9, [.ref (X.2.1 1), .ref (X.2.1 41), .ref (X.2.1 55), .ref (X.2.1 57), .ref (X.2.1 64), .ref (X.2.1 78), .ref (X.2.1 79), .ref (X.2.1 80), .ref (X.2.1 81), .int (r 9), .int (r 10), .int (r 11), .int (r 12), .int (r 13), .int (r 14)])
  else if kL.getD i 999 = 10 then .inr (10, [.ref (X.2.1 1), .ref (X.2.1 2), .int (r 2), .ref (X.2.1 3), .ref (X.2.1 4), .ref (X.2.1 5), .ref (X.2.1 6), .int (r 7), .ref (X.2.1 7), .ref (X.2.1 8), .ref (X.2.1 9), .int (r 11), .ref (X.2.1 10), .ref (X.2.1 11), .int (r 14), .ref (X.2.1 12), .int (r 16), .ref (X.2.1 13), .ref (X.2.1 14), .ref (X.2.1 15), .ref (X.2.1 16), .ref (X.2.1 17), .ref (X.2.1 18), .ref (X.2.1 19), .ref (X.2.1 20), .ref (X.2.1 21), .int (r 26), .int (r 27), .int (r 28), .int (r 29), .int (r 30), .int (r 31), .int (r 32), .ref (X.2.1 22), .ref (X.2.1 23), .ref (X.2.1 24), .ref (X.2.1 25), .ref (X.2.1 26), .ref (X.2.1 27), .ref (X.2.1 28), .ref (X.2.1 29), .int (r 41), .int (r 42), .ref (X.2.1 30), .ref (X.2.1 31)])
  else if kL.getD i 999 = 300 then .inl (X.2.2 2, 6, .inr (.inr (.inr (.inr (fun j => some (X.2.1 (4 + 3 * j)))))))
  else if kL.getD i 999 = 301 then .inl (X.2.2 3, 16, .inr (.inr (.inr (.inr (fun j => some (X.2.1 (25 + j)))))))
  else if kL.getD i 999 = 302 then .inl (X.2.2 4, 3, .inr (.inr (.inr (.inr (fun j => some (X.2.1 (r j).toNatClampNeg))))))
  else if kL.getD i 999 = 303 then .inl (X.2.2 5, 12, .inr (.inr (.inr (.inr (fun j => some (X.2.1 (66 + j)))))))
  else if kL.getD i 999 < 200 then .inl (X.2.2 0, kL.getD i 999 - 100, .inl r)
  else .inl (X.2.2 1, kL.getD i 999 - 200, .inl r)
def wsl (X : wX) (kL : List Nat) (σ : St) : va_W := (List.range kL.length).map (fun i => (X.2.1 i, CE X kL i (σ i)))
theorem wsl_get {X : wX} {kL : List Nat} {σ : St} {i : Nat} (h : i < kL.length) : (wsl X kL σ)[i]? = some (X.2.1 i, CE X kL i (σ i)) := by
  simp [wsl, h]
theorem wsl_set {X : wX} {kL : List Nat} {σ : St} {i j : Nat} {x : Int32} (h : i < kL.length) : (wsl X kL σ).set i (X.2.1 i, CE X kL i (upd (σ i) j x)) = wsl X kL (up2 σ i j x) := by
  apply List.ext_getElem?
  intro k
  rw [List.getElem?_set]
  by_cases hk : i = k
  · subst hk
    rw [if_pos rfl, wsl_get h]
    simp [wsl, h, up2]
  · rw [if_neg hk]
    by_cases hl : k < kL.length
    · rw [wsl_get hl, wsl_get hl]
      simp [up2, Ne.symm hk]
    · rw [List.getElem?_eq_none (by simp [wsl]; omega), List.getElem?_eq_none (by simp [wsl]; omega)]
theorem wsl_mem {X : wX} {kL : List Nat} {σ : St} {k : Nat} {q : Nat × va_E} (h : (wsl X kL σ)[k]? = some q) : k < kL.length ∧ q.1 = X.2.1 k := by
  by_cases hl : k < kL.length
  · rw [wsl_get hl] at h
    cases h
    exact ⟨hl, rfl⟩
  · rw [List.getElem?_eq_none (by simp [wsl]; omega)] at h
    cases h
theorem wsl_D {X : wX} {kL : List Nat} {σ τ : St} {A : Nat → Prop} (h : va_D A (wsl X kL σ)) : va_D A (wsl X kL τ) := by
  refine ⟨fun i j p q hi hj hpq => ?_, fun k q hk => ?_⟩
  · obtain ⟨l1, e1⟩ := wsl_mem hi
    obtain ⟨l2, e2⟩ := wsl_mem hj
    exact h.1 i j _ _ (wsl_get l1) (wsl_get l2) (by rw [← e1, ← e2]; exact hpq)
  · obtain ⟨l1, e1⟩ := wsl_mem hk
    rw [e1]
    exact h.2 k _ (wsl_get l1)
theorem kd_lt {kL : List Nat} {o k : Nat} (h : kL.getD o 999 = k) (hk : k ≠ 999) : o < kL.length := by
  by_cases hl : o < kL.length
  · exact hl
  · rw [List.getD_eq_getElem?_getD, List.getElem?_eq_none (by omega)] at h
    exact absurd h.symm hk
/-! the world of a method: the heap holds the state, its cells are apart, nothing else has changed -/
def gW (X : wX) (kL : List Nat) (A : Nat → Prop) (H0 : Heap) (σ : St) (H : Heap) (locs : List Loc) : Prop :=
  va_P X.1 vwCl (wsl X kL σ) H ∧ va_D A (wsl X kL σ) ∧ va_S A H0 H locs ∧ ∀ q, H0.size ≤ q → A q
def nW (s : State) : Prop := va_Nw (.methodLinkNest RX8 33 yX9_wayUp "GobRow") s ∧ va_Nw (.methodLinkNest RX2 24 yX9_wayUp "GobRow") s ∧ va_Nw (.methodLinkNest RX4 32 yX9_wayUp "GobRow") s ∧ va_Nw (.methodLinkNest RX3 35 yX8_init "GobRow") s ∧ va_Nw (.methodLinkNest RX7 17 yX4_init "GobRow") s ∧ va_Nw (.methodLinkNest RX0 24 yX1_init "GobRow") s ∧ va_AO RX2 s ∧ va_AO RX8 s ∧ va_AO RX4 s ∧ va_AO RX1 s
theorem nW.warm {s U : State} (hW : s.WarmedH U.vm) (h : nW s) : nW U := ⟨va_Nw.warmM hW h.1, va_Nw.warmM hW h.2.1, va_Nw.warmM hW h.2.2.1, va_Nw.warmM hW h.2.2.2.1, va_Nw.warmM hW h.2.2.2.2.1, va_Nw.warmM hW h.2.2.2.2.2.1, va_AO.moved hW.alike h.2.2.2.2.2.2.1, va_AO.moved hW.alike h.2.2.2.2.2.2.2.1, va_AO.moved hW.alike h.2.2.2.2.2.2.2.2.1, va_AO.moved hW.alike h.2.2.2.2.2.2.2.2.2⟩
theorem nW.same {u U : State} (e : u.vm = U.vm) (h : nW u) : nW U := ⟨va_Nw.same rfl e h.1, va_Nw.same rfl e h.2.1, va_Nw.same rfl e h.2.2.1, va_Nw.same rfl e h.2.2.2.1, va_Nw.same rfl e h.2.2.2.2.1, va_Nw.same rfl e h.2.2.2.2.2.1, va_AO.moved (by rw [← e]; exact Vm.Alike.refl u.vm) h.2.2.2.2.2.2.1, va_AO.moved (by rw [← e]; exact Vm.Alike.refl u.vm) h.2.2.2.2.2.2.2.1, va_AO.moved (by rw [← e]; exact Vm.Alike.refl u.vm) h.2.2.2.2.2.2.2.2.1, va_AO.moved (by rw [← e]; exact Vm.Alike.refl u.vm) h.2.2.2.2.2.2.2.2.2⟩
def kX (X : wX) (s : State) : Prop := va_K X.1 vwCl (tysX X) s ∧ nW s
theorem kX.warm {X : wX} {s U : State} (hW : s.WarmedH U.vm) (h : kX X s) : kX X U := ⟨va_K.moved hW.alike h.1, h.2.warm hW⟩
theorem kX.same {X : wX} {u U : State} (e : u.vm = U.vm) (h : kX X u) : kX X U := ⟨va_K.moved (by rw [← e]; exact Vm.Alike.refl u.vm) h.1, h.2.same e⟩
def eV (p : Program) (m : MethodId) (c : Code) (cc : ByteArray) (nL : Nat) (s : State) (args : Array Value) (Ts : List Cond) (own : String) (X : wX) : Prop :=
  CallFix p m c cc nL s args Ts own ∧ kX X s
/-! contracts: what a method begins with, and ends with -/
def pG (X : wX) (kL : List Nat) (σ : St) (sz : Nat) (U : State) : Prop := U.heap.size = sz ∧ va_P X.1 vwCl (wsl X kL σ) U.heap ∧ kX X U ∧ va_D (fun _ => True) (wsl X kL σ)
def mI (X : wX) (kL : List Nat) (l : Launch) (y : MethodName) (ws : List Cond) (rm : Room) (av : List Value) (σ : St) (Q : Int32 → St → Prop) : Prop :=
  ∀ sz : Nat, Met l y ws rm (va_Pc av (pG X kL σ sz)) (va_Qi Q (fun τ t => va_P X.1 vwCl (wsl X kL τ) t.heap) (va_A (wsl X kL σ) sz)) 0 0 (va_A (wsl X kL σ) sz)
def mL (X : wX) (kL : List Nat) (l : Launch) (y : MethodName) (ws : List Cond) (rm : Room) (av : List Value) (σ : St) (Q : Int64 → St → Prop) : Prop :=
  ∀ sz : Nat, Met l y ws rm (va_Pc av (pG X kL σ sz)) (va_Ql Q (fun τ t => va_P X.1 vwCl (wsl X kL τ) t.heap) (va_A (wsl X kL σ) sz)) 0 0 (va_A (wsl X kL σ) sz)
def mV (X : wX) (kL : List Nat) (l : Launch) (y : MethodName) (ws : List Cond) (rm : Room) (av : List Value) (σ : St) (Q : St → Prop) : Prop :=
  ∀ sz : Nat, Met l y ws rm (va_Pc av (pG X kL σ sz)) (va_Qv Q (fun τ t => va_P X.1 vwCl (wsl X kL τ) t.heap) (va_A (wsl X kL σ) sz)) 0 0 (va_A (wsl X kL σ) sz)
def mR (X : wX) (kL : List Nat) (l : Launch) (y : MethodName) (ws : List Cond) (rm : Room) (av : List Value) (σ : St) (Q : Nat → St → Prop) : Prop :=
  ∀ sz : Nat, Met l y ws rm (va_Pc av (pG X kL σ sz)) (va_Qr (fun u : Nat × St => Q u.1 u.2) (fun u a t => a = X.2.1 u.1 ∧ va_P X.1 vwCl (wsl X kL u.2) t.heap) (va_A (wsl X kL σ) sz)) 0 0 (va_A (wsl X kL σ) sz)
/-- a method's ends, as the walk has them -/
def zI (X : wX) (kL : List Nat) (below : List Frame) (args : Array Value) (s : State) (A : Nat → Prop) (Q : Int32 → St → Prop) : State → Prop := MQ below (va_Qi Q (fun τ t => va_P X.1 vwCl (wsl X kL τ) t.heap) A) args s 0 0 A
def zL (X : wX) (kL : List Nat) (below : List Frame) (args : Array Value) (s : State) (A : Nat → Prop) (Q : Int64 → St → Prop) : State → Prop := MQ below (va_Ql Q (fun τ t => va_P X.1 vwCl (wsl X kL τ) t.heap) A) args s 0 0 A
def zV (X : wX) (kL : List Nat) (below : List Frame) (args : Array Value) (s : State) (A : Nat → Prop) (Q : St → Prop) : State → Prop := MQ below (va_Qv Q (fun τ t => va_P X.1 vwCl (wsl X kL τ) t.heap) A) args s 0 0 A
def zR (X : wX) (kL : List Nat) (below : List Frame) (args : Array Value) (s : State) (A : Nat → Prop) (Q : Nat → St → Prop) : State → Prop := MQ below (va_Qr (fun u : Nat × St => Q u.1 u.2) (fun u a t => a = X.2.1 u.1 ∧ va_P X.1 vwCl (wsl X kL u.2) t.heap) A) args s 0 0 A
section HeadRows
variable {X : wX} {kL : List Nat} {l : Launch} {y : MethodName} {ws ws' : List Cond} {rm : Room} {av : List Value} {σ : St} {cc : ByteArray} {maxL : Nat} {ret : Option FieldType}
theorem head_of {Qc : Array Value → State → Outcome → State → Prop} {sz : Nat} (hy : plainFor y = true) (hw : ws = Cond.code y cc maxL ret :: ws') (hlen : (lg_sl av).length ≤ maxL)
    (h : ∀ (p : Program) (e : Env) (s : State) (m : MethodId) (args : Array Value) (below : List Frame) (meth : Method) (c : Code) (ls : Array Slot), eV p m c cc maxL s args ws y.cls X → meth.sig.returnType = ret → meth.locks = false → lv_has ls maxL (lv_args 0 av) → s.heap.size = sz → gW X kL (va_A (wsl X kL σ) sz) s.heap σ s.heap [] → W p l e rm s m args below meth c s.heap [] 0 0 (MQ below Qc args s 0 0 (va_A (wsl X kL σ) sz)) (F0 m 0 ls [])) :
    Met l y ws rm (va_Pc av (pG X kL σ sz)) Qc 0 0 (va_A (wsl X kL σ) sz) := by
  refine va_MetF (cc := cc) (maxL := maxL) (ret := ret) hy hw ?_
  intro p e s m args below meth c s₁ B hml hv
  obtain ⟨rfl, hsz, hP, hK, hD0⟩ := hv
  have hl := lv_entry av (n := maxL) hlen
  rw [lg_entry_eq]
  generalize (lg_sl av ++ List.replicate (maxL - (lg_sl av).length) Slot.unset).toArray = ls at hl ⊢
  exact h p e s m _ below meth c ls ⟨⟨B.exec, B.bytes, hml, findClass_of_methodNamed B.named, atoms_spec (ws := ws) B.pre⟩, hK⟩ B.returns B.notSynchronized hl hsz ⟨hP, hD0.self, va_S.rf, fun q h => Or.inr (by rw [← hsz]; exact h)⟩
theorem mI.of {Q : Int32 → St → Prop} (hy : plainFor y = true) (hw : ws = Cond.code y cc maxL ret :: ws') (hlen : (lg_sl av).length ≤ maxL)
    (h : ∀ (A : Nat → Prop) (p : Program) (e : Env) (s : State) (m : MethodId) (args : Array Value) (below : List Frame) (meth : Method) (c : Code) (ls : Array Slot), eV p m c cc maxL s args ws y.cls X → meth.sig.returnType = ret → meth.locks = false → lv_has ls maxL (lv_args 0 av) → gW X kL A s.heap σ s.heap [] → W p l e rm s m args below meth c s.heap [] 0 0 (zI X kL below args s A Q) (F0 m 0 ls [])) :
    mI X kL l y ws rm av σ Q := fun _ => head_of hy hw hlen (fun p e s m args below meth c ls hE hr hlk hl _ hG => h _ p e s m args below meth c ls hE hr hlk hl hG)
theorem mL.of {Q : Int64 → St → Prop} (hy : plainFor y = true) (hw : ws = Cond.code y cc maxL ret :: ws') (hlen : (lg_sl av).length ≤ maxL)
    (h : ∀ (A : Nat → Prop) (p : Program) (e : Env) (s : State) (m : MethodId) (args : Array Value) (below : List Frame) (meth : Method) (c : Code) (ls : Array Slot), eV p m c cc maxL s args ws y.cls X → meth.sig.returnType = ret → meth.locks = false → lv_has ls maxL (lv_args 0 av) → gW X kL A s.heap σ s.heap [] → W p l e rm s m args below meth c s.heap [] 0 0 (zL X kL below args s A Q) (F0 m 0 ls [])) :
    mL X kL l y ws rm av σ Q := fun _ => head_of hy hw hlen (fun p e s m args below meth c ls hE hr hlk hl _ hG => h _ p e s m args below meth c ls hE hr hlk hl hG)
theorem mV.of {Q : St → Prop} (hy : plainFor y = true) (hw : ws = Cond.code y cc maxL ret :: ws') (hlen : (lg_sl av).length ≤ maxL)
    (h : ∀ (A : Nat → Prop) (p : Program) (e : Env) (s : State) (m : MethodId) (args : Array Value) (below : List Frame) (meth : Method) (c : Code) (ls : Array Slot), eV p m c cc maxL s args ws y.cls X → meth.sig.returnType = ret → meth.locks = false → lv_has ls maxL (lv_args 0 av) → gW X kL A s.heap σ s.heap [] → W p l e rm s m args below meth c s.heap [] 0 0 (zV X kL below args s A Q) (F0 m 0 ls [])) :
    mV X kL l y ws rm av σ Q := fun _ => head_of hy hw hlen (fun p e s m args below meth c ls hE hr hlk hl _ hG => h _ p e s m args below meth c ls hE hr hlk hl hG)
theorem mR.of {Q : Nat → St → Prop} (hy : plainFor y = true) (hw : ws = Cond.code y cc maxL ret :: ws') (hlen : (lg_sl av).length ≤ maxL)
    (h : ∀ (A : Nat → Prop) (p : Program) (e : Env) (s : State) (m : MethodId) (args : Array Value) (below : List Frame) (meth : Method) (c : Code) (ls : Array Slot), eV p m c cc maxL s args ws y.cls X → meth.sig.returnType = ret → meth.locks = false → lv_has ls maxL (lv_args 0 av) → gW X kL A s.heap σ s.heap [] → W p l e rm s m args below meth c s.heap [] 0 0 (zR X kL below args s A Q) (F0 m 0 ls [])) :
    mR X kL l y ws rm av σ Q := fun _ => head_of hy hw hlen (fun p e s m args below meth c ls hE hr hlk hl _ hG => h _ p e s m args below meth c ls hE hr hlk hl hG)
end HeadRows
section GRows
variable {p : Program} {l : Launch} {e : Env} {R : Room} {s : State} {m : MethodId} {args : Array Value} {below : List Frame} {meth : Method} {c : Code} {H : Heap} {locs : List Loc} {cells slots : Nat} {Q : State → Prop}
variable {cc : ByteArray} {pc nL : Nat} {ls : Array Slot} {rest : List Value} {X : wX} {kL : List Nat} {A : Nat → Prop} {H0 : Heap} {σ : St} {Ts : List Cond} {own : String}
/-! ends -/
theorem g_iret {Qm : Int32 → St → Prop} {v : Int32} (hE : eV p m c cc nL s args Ts own X) (hG : gW X kL A s.heap σ H locs) (hr : meth.sig.returnType = some .int) (hlk : meth.locks = false) (hdg : decode cc pc = .ok (.ireturn, 1)) (hw : Qm v σ) : W p l e R s m args below meth c H locs 0 0 (zI X kL below args s A Qm) (F0 m pc ls [.int v]) :=
  W.iret hE.1.1 hE.1.2.1 hr (fun t ht _ => ⟨⟨v, σ, rfl, hw, by subst ht; exact hG.1⟩, hG.2.2.1.F ht⟩) hG.2.2.1.2.2 hdg hlk
theorem g_zret {Qm : Int32 → St → Prop} {v : Int32} (hE : eV p m c cc nL s args Ts own X) (hG : gW X kL A s.heap σ H locs) (hr : meth.sig.returnType = some .boolean) (hlk : meth.locks = false) (hdg : decode cc pc = .ok (.ireturn, 1)) (hn : narrow .boolean (.int v) = .int v) (hw : Qm v σ) : W p l e R s m args below meth c H locs 0 0 (zI X kL below args s A Qm) (F0 m pc ls [.int v]) :=
  W.zret hE.1.1 hE.1.2.1 hr hn (fun t ht _ => ⟨⟨v, σ, rfl, hw, by subst ht; exact hG.1⟩, hG.2.2.1.F ht⟩) hG.2.2.1.2.2 hdg hlk
theorem g_lret {Qm : Int64 → St → Prop} {v : Int64} (hE : eV p m c cc nL s args Ts own X) (hG : gW X kL A s.heap σ H locs) (hr : meth.sig.returnType = some .long) (hlk : meth.locks = false) (hdg : decode cc pc = .ok (.lreturn, 1)) (hw : Qm v σ) : W p l e R s m args below meth c H locs 0 0 (zL X kL below args s A Qm) (F0 m pc ls [.long v]) :=
  W.lret hE.1.1 hE.1.2.1 hr (fun t ht _ => ⟨⟨v, σ, rfl, hw, by subst ht; exact hG.1⟩, hG.2.2.1.F ht⟩) hG.2.2.1.2.2 hdg hlk
theorem g_vret {Qm : St → Prop} (hE : eV p m c cc nL s args Ts own X) (hG : gW X kL A s.heap σ H locs) (hr : meth.sig.returnType = none) (hlk : meth.locks = false) (hdg : decode cc pc = .ok (.return_, 1)) (hw : Qm σ) : W p l e R s m args below meth c H locs 0 0 (zV X kL below args s A Qm) (F0 m pc ls []) :=
  W.vret hE.1.1 hE.1.2.1 hr (fun t ht _ => ⟨⟨σ, rfl, hw, by subst ht; exact hG.1⟩, hG.2.2.1.F ht⟩) hG.2.2.1.2.2 hdg hlk
theorem g_aret {Qm : Nat → St → Prop} {o : Nat} {rt : String} (hE : eV p m c cc nL s args Ts own X) (hG : gW X kL A s.heap σ H locs) (hr : meth.sig.returnType = some (.object rt)) (hlk : meth.locks = false) (hdg : decode cc pc = .ok (.areturn, 1)) (hw : Qm o σ) : W p l e R s m args below meth c H locs 0 0 (zR X kL below args s A Qm) (F0 m pc ls [.ref (X.2.1 o)]) :=
  W.aret hE.1.1 hE.1.2.1 hr (Or.inl ⟨_, rfl⟩) (Or.inr ⟨_, rfl⟩) (fun t ht _ => ⟨⟨(o, σ), X.2.1 o, rfl, hw, rfl, by subst ht; exact hG.1⟩, hG.2.2.1.F ht⟩) hG.2.2.1.2.2 hdg hlk
/-! fields -/
theorem g_get (hE : eV p m c cc nL s args Ts own X) (hG : gW X kL A H0 σ H locs) {ref C : String} {T : u_T} {N ci index o k : Nat} {fs : List Value} {v : Value} (hlt : o < kL.length) (hce : CE X kL o (σ o) = .inr (ci, fs)) (hc : vwCl[ci]? = some (C, T, N)) (hin : ∀ w ∈ u_ws C T N, w ∈ Ts) (hk : k < N) (hlink : Cond.fieldLink own index ref (T k).2.1 (T k).2.2.1 ∈ Ts) (hrf : (T k).1 = ref) (hv : fs[k]? = some v) (hdg : decode cc pc = .ok (.getfield index, 3))
    (kk : W p l e R s m args below meth c H locs cells slots Q (F0 m (pc + 3) ls (v :: rest))) : W p l e R s m args below meth c H locs cells slots Q (F0 m pc ls (.ref (X.2.1 o) :: rest)) := by
  refine va_get (D := X.1) (ci := ci) (v := v) (C := C) (T := T) (N := N) (ref := ref) hE.1.1 hE.1.2.1 hE.1.2.2.2.2 hin hE.1.2.2.2.1 hE.2.1 hG.1 o (by rw [wsl_get hlt, hce]) hc k hk (hE.1.2.2.2.2 _ hlink) (fun _ h => by rw [← hrf]; exact h) hv hdg kk
theorem g_put (hE : eV p m c cc nL s args Ts own X) (hG : gW X kL A H0 σ H locs) {ref C : String} {T : u_T} {N ci index o k : Nat} {fs : List Value} {x : Int32} {v : Value} {ty : FieldType} (hlt : o < kL.length) (hce : CE X kL o (σ o) = .inr (ci, fs)) (hce2 : CE X kL o (upd (σ o) k x) = .inr (ci, fs.set k v)) (hc : vwCl[ci]? = some (C, T, N)) (hin : ∀ w ∈ u_ws C T N, w ∈ Ts) (ty0 : Nat → FieldType) (hty : ∀ k, k < N → parseFieldDescriptor (T k).2.2.1 = some (ty0 k)) (hnm : ∀ a, a < N → ∀ b, b < N → a ≠ b → (T a).2.1 ≠ (T b).2.1) (hk : k < N) (hlink : Cond.fieldLink own index ref (T k).2.1 (T k).2.2.1 ∈ Ts) (hrf : (T k).1 = ref) (hfin : (T k).2.2.2 = false) (hd : parseFieldDescriptor (T k).2.2.1 = some ty) (hn : narrow ty v = v) (hfit : fits ty v = true) (hl : k < fs.length) (hdg : decode cc pc = .ok (.putfield index, 3))
    (kk : ∀ (τ : St) (H1 : Heap) (locs1 : List Loc), τ = up2 σ o k x → gW X kL A H0 τ H1 locs1 → W p l e R s m args below meth c H1 locs1 cells slots Q (F0 m (pc + 3) ls rest)) : W p l e R s m args below meth c H locs cells slots Q (F0 m pc ls (v :: .ref (X.2.1 o) :: rest)) := by
  refine va_put (D := X.1) (ci := ci) (v := v) (ty := ty) (C := C) (T := T) (N := N) (ref := ref) hE.1.1 hE.1.2.1 hE.1.2.2.2.2 hin ty0 hty hnm hE.1.2.2.2.1 hE.2.1 hG.1 hG.2.1 hG.2.2.1 o (by rw [wsl_get hlt, hce]) hc k hk (hE.1.2.2.2.2 _ hlink) (fun _ h => by rw [← hrf]; exact h) hfin hd hn hfit hl hdg (fun H1 locs1 h1 h2 h3 => ?_)
  rw [← hce2, wsl_set hlt] at h1 h2
  exact kk _ H1 locs1 rfl ⟨h1, h2, h3, hG.2.2.2⟩
/-! rows of ints and booleans -/
theorem g_iald (hE : eV p m c cc nL s args Ts own X) (hG : gW X kL A H0 σ H locs) {o n : Nat} {i : Int32} (hlt : o < kL.length) (hce : CE X kL o (σ o) = .inl (X.2.2 0, n, .inl (σ o))) (hin : vp_in i n) (hdg : decode cc pc = .ok (.iaload, 1))
    (kk : W p l e R s m args below meth c H locs cells slots Q (F0 m (pc + 1) ls (.int (σ o i.toNatClampNeg) :: rest))) : W p l e R s m args below meth c H locs cells slots Q (F0 m pc ls (.int i :: .ref (X.2.1 o) :: rest)) :=
  va_iald hE.1.1 hE.1.2.1 hE.2.1 hG.1 o 0 (by rw [wsl_get hlt, hce]) rfl hin hdg kk
theorem g_zald (hE : eV p m c cc nL s args Ts own X) (hG : gW X kL A H0 σ H locs) {o n : Nat} {i : Int32} (hlt : o < kL.length) (hce : CE X kL o (σ o) = .inl (X.2.2 1, n, .inl (σ o))) (hin : vp_in i n) (hdg : decode cc pc = .ok (.baload, 1))
    (kk : W p l e R s m args below meth c H locs cells slots Q (F0 m (pc + 1) ls (.int (σ o i.toNatClampNeg) :: rest))) : W p l e R s m args below meth c H locs cells slots Q (F0 m pc ls (.int i :: .ref (X.2.1 o) :: rest)) :=
  va_zald hE.1.1 hE.1.2.1 hE.2.1 hG.1 o 1 (by rw [wsl_get hlt, hce]) rfl hin hdg kk
theorem g_iast (hE : eV p m c cc nL s args Ts own X) (hG : gW X kL A H0 σ H locs) {o n : Nat} {i x : Int32} (hlt : o < kL.length) (hce : ∀ r, CE X kL o r = .inl (X.2.2 0, n, .inl r)) (hin : vp_in i n) (hdg : decode cc pc = .ok (.iastore, 1))
    (kk : ∀ (τ : St) (H1 : Heap) (locs1 : List Loc), τ = up2 σ o i.toNatClampNeg x → gW X kL A H0 τ H1 locs1 → W p l e R s m args below meth c H1 locs1 cells slots Q (F0 m (pc + 1) ls rest)) : W p l e R s m args below meth c H locs cells slots Q (F0 m pc ls (.int x :: .int i :: .ref (X.2.1 o) :: rest)) := by
  refine va_iast hE.1.1 hE.1.2.1 hE.2.1 hG.1 hG.2.1 hG.2.2.1 o 0 (by rw [wsl_get hlt, hce]) rfl hin hdg (fun H1 locs1 h1 h2 h3 => ?_)
  rw [← hce, wsl_set hlt] at h1 h2
  exact kk _ H1 locs1 rfl ⟨h1, h2, h3, hG.2.2.2⟩
theorem g_zast (hE : eV p m c cc nL s args Ts own X) (hG : gW X kL A H0 σ H locs) {o n : Nat} {i x : Int32} (hlt : o < kL.length) (hce : ∀ r, CE X kL o r = .inl (X.2.2 1, n, .inl r)) (hin : vp_in i n) (hdg : decode cc pc = .ok (.bastore, 1))
    (kk : ∀ (τ : St) (H1 : Heap) (locs1 : List Loc), τ = up2 σ o i.toNatClampNeg (vp_nar .boolean x) → gW X kL A H0 τ H1 locs1 → W p l e R s m args below meth c H1 locs1 cells slots Q (F0 m (pc + 1) ls rest)) : W p l e R s m args below meth c H locs cells slots Q (F0 m pc ls (.int x :: .int i :: .ref (X.2.1 o) :: rest)) := by
  refine va_zast hE.1.1 hE.1.2.1 hE.2.1 hG.1 hG.2.1 hG.2.2.1 o 1 (by rw [wsl_get hlt, hce]) rfl hin hdg (fun H1 locs1 h1 h2 h3 => ?_)
  rw [← hce, wsl_set hlt] at h1 h2
  exact kk _ H1 locs1 rfl ⟨h1, h2, h3, hG.2.2.2⟩
/-! rows of references -/
theorem g_aald (hE : eV p m c cc nL s args Ts own X) (hG : gW X kL A H0 σ H locs) {o n t0 q : Nat} {C : String} {cA : ClassId} {f : Nat → Option Nat} {i : Int32} (hlt : o < kL.length) (hce : CE X kL o (σ o) = .inl (cA, n, .inr (.inr (.inr (.inr f))))) (ht : (tysX X)[t0]? = some (cA, .object C)) (hin : vp_in i n) (hf : f i.toNatClampNeg = some (X.2.1 q)) (hdg : decode cc pc = .ok (.aaload, 1))
    (kk : W p l e R s m args below meth c H locs cells slots Q (F0 m (pc + 1) ls (.ref (X.2.1 q) :: rest))) : W p l e R s m args below meth c H locs cells slots Q (F0 m pc ls (.int i :: .ref (X.2.1 o) :: rest)) := by
  refine va_aldq hE.1.1 hE.1.2.1 hE.2.1 hG.1 o t0 (by rw [wsl_get hlt, hce]) ht hin hdg ?_
  rw [hf]
  exact kk
end GRows
