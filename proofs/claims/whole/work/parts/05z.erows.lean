/-! constructors: worlds as plain lists of cells -/
def gE (X : wX) (A : Nat → Prop) (H0 : Heap) (ws : va_W) (H : Heap) (locs : List Loc) : Prop := va_P X.1 vwCl ws H ∧ va_D A ws ∧ va_S A H0 H locs ∧ ∀ q, H0.size ≤ q → A q
def pE (X : wX) (ws : va_W) (sz : Nat) (U : State) : Prop := U.heap.size = sz ∧ va_P X.1 vwCl ws U.heap ∧ kX X U ∧ va_D (fun _ => True) ws
def mC (X : wX) (l : Launch) (y : MethodName) (wd : List Cond) (rm : Room) (av : List Value) (W0 : va_W) (W1 : (Nat → Nat) → va_W) (mc ms : Nat) : Prop :=
  ∀ sz : Nat, Met l y wd rm (va_Pc av (pE X W0 sz)) (va_Qv (fun _ : Nat → Nat => True) (fun u t => va_P X.1 vwCl (W1 u) t.heap ∧ va_D (va_A W0 sz) (W1 u)) (va_A W0 sz)) mc ms (va_A W0 sz)
def zC (X : wX) (below : List Frame) (args : Array Value) (s : State) (A : Nat → Prop) (W1 : (Nat → Nat) → va_W) (mc ms : Nat) : State → Prop := MQ below (va_Qv (fun _ : Nat → Nat => True) (fun u t => va_P X.1 vwCl (W1 u) t.heap ∧ va_D A (W1 u)) A) args s mc ms A
theorem mC.of {X : wX} {l : Launch} {y : MethodName} {ws ws' : List Cond} {rm : Room} {av : List Value} {cc : ByteArray} {maxL mc ms : Nat} {W0 : va_W} {W1 : (Nat → Nat) → va_W} (hy : plainName y.cls = true) (hw : ws = Cond.code y cc maxL none :: ws') (hlen : (lg_sl av).length ≤ maxL)
    (h : ∀ (A : Nat → Prop) (p : Program) (e : Env) (s : State) (m : MethodId) (args : Array Value) (below : List Frame) (meth : Method) (c : Code) (ls : Array Slot), eV p m c cc maxL s args ws y.cls X → meth.sig.returnType = none → meth.locks = false → meth.name = y.name → lv_has ls maxL (lv_args 0 av) → gE X A s.heap W0 s.heap [] → W p l e rm s m args below meth c s.heap [] 0 0 (zC X below args s A W1 mc ms) (F0 m 0 ls [])) :
    mC X l y ws rm av W0 W1 mc ms := by
  intro sz
  refine Met.ofW (cc := cc) (maxL := maxL) (ret := none) hy hw ?_
  intro p e s m args below meth c s₁ B hml hv
  obtain ⟨rfl, hsz, hP, hK, hD0⟩ := hv
  have hl := lv_entry av (n := maxL) hlen
  rw [lg_entry_eq]
  generalize (lg_sl av ++ List.replicate (maxL - (lg_sl av).length) Slot.unset).toArray = ls at hl ⊢
  subst hsz
  exact h _ p e s m _ below meth c ls ⟨⟨B.exec, B.bytes, hml, findClass_of_methodNamed B.named, atoms_spec (ws := ws) B.pre⟩, hK⟩ B.returns B.notSynchronized (name_of_methodNamed B.named B.method).1 hl ⟨hP, hD0.self, va_S.rf, fun q h => Or.inr h⟩
section ERows
variable {p : Program} {l : Launch} {e : Env} {R : Room} {s : State} {m : MethodId} {args : Array Value} {below : List Frame} {meth : Method} {c : Code} {H : Heap} {locs : List Loc} {cells slots : Nat} {Q : State → Prop}
variable {cc : ByteArray} {pc nL : Nat} {ls : Array Slot} {rest : List Value} {X : wX} {A : Nat → Prop} {H0 : Heap} {ws w2 : va_W} {Ts : List Cond} {own : String} {a : Nat}
theorem e_vret {W1 : (Nat → Nat) → va_W} (u : Nat → Nat) (hE : eV p m c cc nL s args Ts own X) (hG : gE X A s.heap ws H locs) (hr : meth.sig.returnType = none) (hlk : meth.locks = false) (hdg : decode cc pc = .ok (.return_, 1)) (hu : ws = W1 u) : W p l e R s m args below meth c H locs cells slots (zC X below args s A W1 cells slots) (F0 m pc ls []) := by
  subst hu
  exact W.vret hE.1.1 hE.1.2.1 hr (fun t ht _ => ⟨⟨u, rfl, trivial, by subst ht; exact hG.1, hG.2.1⟩, hG.2.2.1.F ht⟩) hG.2.2.1.2.2 hdg hlk
theorem e_obj (hE : eV p m c cc nL s args Ts own X) {idx : Nat} (h1 : Cond.methodLink own idx objectInit ∈ Ts) (h2 : Cond.instanceMethod objectInit ∈ Ts) (h3 : Cond.code objectInit ⟨#[0xb1]⟩ 1 none ∈ Ts) (hls : ls.size = nL) (hdg : decode cc pc = .ok (.invokespecial idx, 3)) (hf : 1 ≤ R.frames) (hlo : (rest.map fun v => v.category).sum + 12 ≤ R.locals)
    (kk : W p l e R s m args below meth c H locs cells slots Q (F0 m (pc + 3) ls rest)) : W p l e R s m args below meth c H locs cells slots Q (F0 m pc ls (.ref a :: rest)) :=
  W.objInit hE.1.1 hE.1.2.1 hE.1.2.2.2.1 (hE.1.2.2.2.2 _ h1) (hE.1.2.2.2.2 _ h2) (hE.1.2.2.2.2 _ h3) rfl (by rw [hE.1.2.2.1]; exact hls) rfl hdg hf (by show 2 * 0 + _ + 12 ≤ _; omega) kk
theorem e_get (hE : eV p m c cc nL s args Ts own X) (hG : gE X A H0 ws H locs) (q0 : Nat) {ref C : String} {T : u_T} {N ci index k : Nat} {fs : List Value} {v : Value} (he : ws[q0]? = some (a, .inr (ci, fs))) (hc : vwCl[ci]? = some (C, T, N)) (hin : ∀ w ∈ u_ws C T N, w ∈ Ts) (hk : k < N) (hlink : Cond.fieldLink own index ref (T k).2.1 (T k).2.2.1 ∈ Ts) (hrf : (T k).1 = ref) (hv : fs[k]? = some v) (hdg : decode cc pc = .ok (.getfield index, 3))
    (kk : W p l e R s m args below meth c H locs cells slots Q (F0 m (pc + 3) ls (v :: rest))) : W p l e R s m args below meth c H locs cells slots Q (F0 m pc ls (.ref a :: rest)) :=
  va_get (D := X.1) (ci := ci) (v := v) (C := C) (T := T) (N := N) (ref := ref) hE.1.1 hE.1.2.1 hE.1.2.2.2.2 hin hE.1.2.2.2.1 hE.2.1 hG.1 q0 he hc k hk (hE.1.2.2.2.2 _ hlink) (fun _ h => by rw [← hrf]; exact h) hv hdg kk
theorem e_put (hE : eV p m c cc nL s args Ts own X) (hG : gE X A H0 ws H locs) (q0 : Nat) {ref C : String} {T : u_T} {N ci index k : Nat} {fs : List Value} {v : Value} {ty : FieldType} (he : ws[q0]? = some (a, .inr (ci, fs))) (h2 : ws.set q0 (a, .inr (ci, fs.set k v)) = w2) (hc : vwCl[ci]? = some (C, T, N)) (hin : ∀ w ∈ u_ws C T N, w ∈ Ts) (ty0 : Nat → FieldType) (hty : ∀ k, k < N → parseFieldDescriptor (T k).2.2.1 = some (ty0 k)) (hnm : ∀ a, a < N → ∀ b, b < N → a ≠ b → (T a).2.1 ≠ (T b).2.1) (hk : k < N) (hlink : Cond.fieldLink own index ref (T k).2.1 (T k).2.2.1 ∈ Ts) (hrf : (T k).1 = ref) (hfin : (T k).2.2.2 = false) (hd : parseFieldDescriptor (T k).2.2.1 = some ty) (hn : narrow ty v = v) (hfit : fits ty v = true) (hl : k < fs.length) (hdg : decode cc pc = .ok (.putfield index, 3))
    (kk : ∀ (H1 : Heap) (locs1 : List Loc), gE X A H0 w2 H1 locs1 → W p l e R s m args below meth c H1 locs1 cells slots Q (F0 m (pc + 3) ls rest)) : W p l e R s m args below meth c H locs cells slots Q (F0 m pc ls (v :: .ref a :: rest)) := by
  subst h2
  exact va_put (D := X.1) (ci := ci) (v := v) (ty := ty) (C := C) (T := T) (N := N) (ref := ref) hE.1.1 hE.1.2.1 hE.1.2.2.2.2 hin ty0 hty hnm hE.1.2.2.2.1 hE.2.1 hG.1 hG.2.1 hG.2.2.1 q0 he hc k hk (hE.1.2.2.2.2 _ hlink) (fun _ h => by rw [← hrf]; exact h) hfin hd hn hfit hl hdg (fun H1 locs1 h1 h2 h3 => kk H1 locs1 ⟨h1, h2, h3, hG.2.2.2⟩)
theorem e_putF (hE : eV p m c cc nL s args Ts own X) (hG : gE X A H0 ws H locs) (q0 : Nat) {ref C : String} {T : u_T} {N ci index k : Nat} {fs : List Value} {v : Value} {ty : FieldType} (he : ws[q0]? = some (a, .inr (ci, fs))) (h2 : ws.set q0 (a, .inr (ci, fs.set k v)) = w2) (hc : vwCl[ci]? = some (C, T, N)) (hin : ∀ w ∈ u_ws C T N, w ∈ Ts) (ty0 : Nat → FieldType) (hty : ∀ k, k < N → parseFieldDescriptor (T k).2.2.1 = some (ty0 k)) (hnm : ∀ a, a < N → ∀ b, b < N → a ≠ b → (T a).2.1 ≠ (T b).2.1) (hk : k < N) (hlink : Cond.fieldLink own index ref (T k).2.1 (T k).2.2.1 ∈ Ts) (hrf : (T k).1 = ref) (hfin : (T k).2.2.2 = true) (hin2 : meth.name = "<init>") (hdecl : (T k).1 = own) (hd : parseFieldDescriptor (T k).2.2.1 = some ty) (hn : narrow ty v = v) (hfit : fits ty v = true) (hl : k < fs.length) (hdg : decode cc pc = .ok (.putfield index, 3))
    (kk : ∀ (H1 : Heap) (locs1 : List Loc), gE X A H0 w2 H1 locs1 → W p l e R s m args below meth c H1 locs1 cells slots Q (F0 m (pc + 3) ls rest)) : W p l e R s m args below meth c H locs cells slots Q (F0 m pc ls (v :: .ref a :: rest)) := by
  subst h2
  exact va_putF (D := X.1) (ci := ci) (v := v) (ty := ty) (C := C) (T := T) (N := N) (ref := ref) hE.1.1 hE.1.2.1 hE.1.2.2.2.2 hin ty0 hty hnm hE.1.2.2.2.1 hE.2.1 hG.1 hG.2.1 hG.2.2.1 q0 he hc k hk (hE.1.2.2.2.2 _ hlink) (fun _ h => by rw [← hrf]; exact h) hfin hin2 hdecl hd hn hfit hl hdg (fun H1 locs1 h1 h2 h3 => kk H1 locs1 ⟨h1, h2, h3, hG.2.2.2⟩)
theorem e_iast (hE : eV p m c cc nL s args Ts own X) (hG : gE X A H0 ws H locs) (q0 : Nat) {n k : Nat} {f : Nat → Int32} {i x y : Int32} (he : ws[q0]? = some (a, .inl (X.2.2 0, n, .inl f))) (h2 : ws.set q0 (a, .inl (X.2.2 0, n, .inl (upd f k y))) = w2) (hk : i.toNatClampNeg = k) (hy : x = y) (hin : vp_in i n) (hdg : decode cc pc = .ok (.iastore, 1))
    (kk : ∀ (H1 : Heap) (locs1 : List Loc), gE X A H0 w2 H1 locs1 → W p l e R s m args below meth c H1 locs1 cells slots Q (F0 m (pc + 1) ls rest)) : W p l e R s m args below meth c H locs cells slots Q (F0 m pc ls (.int x :: .int i :: .ref a :: rest)) := by
  subst h2; subst hk; subst hy
  exact va_iast hE.1.1 hE.1.2.1 hE.2.1 hG.1 hG.2.1 hG.2.2.1 q0 0 he rfl hin hdg (fun H1 locs1 h1 h2 h3 => kk H1 locs1 ⟨h1, h2, h3, hG.2.2.2⟩)
theorem e_aast (hE : eV p m c cc nL s args Ts own X) (hG : gE X A H0 ws H locs) (q0 t0 qk ci : Nat) {cA : ClassId} {r : vw_C} {n v k : Nat} {vs : List Value} {f : Nat → Option Nat} {i : Int32} (he : ws[q0]? = some (a, .inl (cA, n, .inr (.inr (.inr (.inr f)))))) (h2 : ws.set q0 (a, .inl (cA, n, .inr (.inr (.inr (.inr (va_up f k (some v))))))) = w2) (ht : (tysX X)[t0]? = some (cA, .object r.1)) (hv : ws[qk]? = some (v, .inr (ci, vs))) (hc : vwCl[ci]? = some r) (hk : i.toNatClampNeg = k) (hin : vp_in i n) (hdg : decode cc pc = .ok (.aastore, 1))
    (kk : ∀ (H1 : Heap) (locs1 : List Loc), gE X A H0 w2 H1 locs1 → W p l e R s m args below meth c H1 locs1 cells slots Q (F0 m (pc + 1) ls rest)) : W p l e R s m args below meth c H locs cells slots Q (F0 m pc ls (.ref v :: .int i :: .ref a :: rest)) := by
  subst h2; subst hk
  exact va_astq hE.1.1 hE.1.2.1 hE.2.1 hG.1 hG.2.1 hG.2.2.1 q0 t0 qk ci he ht hv hc hin hdg (fun H1 locs1 h1 h2 h3 => kk H1 locs1 ⟨h1, h2, h3, hG.2.2.2⟩)
theorem e_aald (hE : eV p m c cc nL s args Ts own X) (hG : gE X A H0 ws H locs) (q0 t0 : Nat) {cA : ClassId} {C : String} {n q k : Nat} {f : Nat → Option Nat} {i : Int32} (he : ws[q0]? = some (a, .inl (cA, n, .inr (.inr (.inr (.inr f)))))) (ht : (tysX X)[t0]? = some (cA, .object C)) (hk : i.toNatClampNeg = k) (hin : vp_in i n) (hf : f k = some q) (hdg : decode cc pc = .ok (.aaload, 1))
    (kk : W p l e R s m args below meth c H locs cells slots Q (F0 m (pc + 1) ls (.ref q :: rest))) : W p l e R s m args below meth c H locs cells slots Q (F0 m pc ls (.int i :: .ref a :: rest)) := by
  subst hk
  refine va_aldq hE.1.1 hE.1.2.1 hE.2.1 hG.1 q0 t0 he ht hin hdg ?_
  rw [hf]
  exact kk
theorem e_newI (hE : eV p m c cc nL s args Ts own X) (hG : gE X A s.heap ws H locs) (harr : Cond.arrayClass .int ∈ Ts) {n : Int32} {N' : Nat} (hn : ¬ n < 0) (hN : n.toNatClampNeg = N') (hbytes : N' * componentBytes .int ≤ 536870912) (hcells : cells + 1 ≤ R.cells) (hslots : slots + N' ≤ R.slots) (hdg : decode cc pc = .ok (.newarray .int, 2))
    (kk : ∀ (q : Nat) (H1 : Heap), gE X A s.heap (ws ++ [(q, .inl (X.2.2 0, N', .inl (fun _ => 0)))]) H1 locs → W p l e R s m args below meth c H1 locs (cells + 1) (slots + N') Q (F0 m (pc + 2) ls (.ref q :: rest))) : W p l e R s m args below meth c H locs cells slots Q (F0 m pc ls (.int n :: rest)) := by
  refine va_newa hE.1.1 hE.1.2.1 (atype := .int) (hE.1.2.2.2.2 _ harr) (ty := .int) rfl hE.2.1 hG.1 hG.2.1 hG.2.2.1 hG.2.2.2 (a0 := (N', .inl (fun _ => 0))) (fun _ => rfl) hn hN hbytes hcells hslots hdg (fun q cA H1 hK h1 h2 h3 => ?_)
  have e1 : s.vm.findClass ("[" ++ FieldType.int.toString) = some cA := (hK.2 6 (cA, .int) rfl).2
  have e2 : s.vm.findClass ("[" ++ FieldType.int.toString) = some (X.2.2 0) := (hK.2 0 (X.2.2 0, .int) rfl).2
  obtain rfl : cA = X.2.2 0 := Option.some.inj (e1.symm.trans e2)
  exact kk q H1 ⟨h1, h2, h3, hG.2.2.2⟩
theorem e_newZ (hE : eV p m c cc nL s args Ts own X) (hG : gE X A s.heap ws H locs) (harr : Cond.arrayClass .boolean ∈ Ts) {n : Int32} {N' : Nat} (hn : ¬ n < 0) (hN : n.toNatClampNeg = N') (hbytes : N' * componentBytes .boolean ≤ 536870912) (hcells : cells + 1 ≤ R.cells) (hslots : slots + N' ≤ R.slots) (hdg : decode cc pc = .ok (.newarray .boolean, 2))
    (kk : ∀ (q : Nat) (H1 : Heap), gE X A s.heap (ws ++ [(q, .inl (X.2.2 1, N', .inl (fun _ => 0)))]) H1 locs → W p l e R s m args below meth c H1 locs (cells + 1) (slots + N') Q (F0 m (pc + 2) ls (.ref q :: rest))) : W p l e R s m args below meth c H locs cells slots Q (F0 m pc ls (.int n :: rest)) := by
  refine va_newa hE.1.1 hE.1.2.1 (atype := .boolean) (hE.1.2.2.2.2 _ harr) (ty := .boolean) rfl hE.2.1 hG.1 hG.2.1 hG.2.2.1 hG.2.2.2 (a0 := (N', .inl (fun _ => 0))) (fun _ => rfl) hn hN hbytes hcells hslots hdg (fun q cA H1 hK h1 h2 h3 => ?_)
  have e1 : s.vm.findClass ("[" ++ FieldType.boolean.toString) = some cA := (hK.2 6 (cA, .boolean) rfl).2
  have e2 : s.vm.findClass ("[" ++ FieldType.boolean.toString) = some (X.2.2 1) := (hK.2 1 (X.2.2 1, .boolean) rfl).2
  obtain rfl : cA = X.2.2 1 := Option.some.inj (e1.symm.trans e2)
  exact kk q H1 ⟨h1, h2, h3, hG.2.2.2⟩
theorem e_newQ (hE : eV p m c cc nL s args Ts own X) (hG : gE X A s.heap ws H locs) {C : String} {index : Nat} (t0 : Nat) {cB : ClassId} (ht : (tysX X)[t0]? = some (cB, .object C)) (hlk : Cond.classLink own index C ∈ Ts) (hover : va_AO C s) {n : Int32} {N' : Nat} (hn : ¬ n < 0) (hN : n.toNatClampNeg = N') (hbytes : N' * 4 ≤ 536870912) (hcells : cells + 1 ≤ R.cells) (hslots : slots + N' ≤ R.slots) (hdg : decode cc pc = .ok (.anewarray index, 3))
    (kk : ∀ (q : Nat) (H1 : Heap), gE X A s.heap (ws ++ [(q, .inl (cB, N', .inr (.inr (.inr (.inr (fun _ => none))))))]) H1 locs → W p l e R s m args below meth c H1 locs (cells + 1) (slots + N') Q (F0 m (pc + 3) ls (.ref q :: rest))) : W p l e R s m args below meth c H locs cells slots Q (F0 m pc ls (.int n :: rest)) := by
  refine va_newq hE.1.1 hE.1.2.1 hE.1.2.2.2.1 (hE.1.2.2.2.2 _ hlk) hover hE.2.1 hG.1 hG.2.1 hG.2.2.1 hG.2.2.2 hn hN hbytes hcells hslots hdg (fun q cA H1 hK h1 h2 h3 => ?_)
  obtain ⟨_, _, _, _, _, e1⟩ := (hK.2 6 (cA, .object C) rfl).2
  obtain ⟨_, _, _, _, _, e2⟩ := (hE.2.1.2 t0 (cB, .object C) ht).2
  obtain rfl : cA = cB := Option.some.inj (e1.symm.trans e2)
  exact kk q H1 ⟨h1, h2, h3, hG.2.2.2⟩
theorem e_new (hE : eV p m c cc nL s args Ts own X) (hG : gE X A s.heap ws H locs) {C : String} {T : u_T} {N ci index : Nat} {fs : List Value} (hin : ∀ w ∈ u_ws C T N, w ∈ Ts) (ty : Nat → FieldType) (hty : ∀ k, k < N → parseFieldDescriptor (T k).2.2.1 = some (ty k)) (hcl : Cond.classLink own index C ∈ Ts) (hinst : Cond.instantiable C N ∈ Ts) (hini : Cond.initialized C ∈ Ts) (hc : vwCl[ci]? = some (C, T, N)) (hfs : ∀ j, j < N → defaultValue (ty j) = vp_V fs j) (hcells : cells + 1 ≤ R.cells) (hslots : slots + N ≤ R.slots) (hdg : decode cc pc = .ok (.new index, 3))
    (kk : ∀ (q : Nat) (H1 : Heap), gE X A s.heap (ws ++ [(q, .inr (ci, fs))]) H1 locs → W p l e R s m args below meth c H1 locs (cells + 1) (slots + N) Q (F0 m (pc + 3) ls (.ref q :: rest))) : W p l e R s m args below meth c H locs cells slots Q (F0 m pc ls rest) :=
  va_new (ci := ci) (fs := fs) (C := C) (T := T) (N := N) hE.1.1 hE.1.2.1 hE.1.2.2.2.2 hin ty hty hE.1.2.2.2.1 (hE.1.2.2.2.2 _ hcl) (hE.1.2.2.2.2 _ hinst) (hE.1.2.2.2.2 _ hini) hE.2.1 hG.1 hG.2.1 hG.2.2.1 hG.2.2.2 hc hfs hcells hslots hdg (fun q H1 h1 h2 h3 => kk q H1 ⟨h1, h2, h3, hG.2.2.2⟩)
variable {y : MethodName} {bytes : ByteArray} {maxL index n mc ms : Nat} {wd wd' : List Cond} {rm : Room} {As st0 : List Value} {W0 : va_W} {W1 : (Nat → Nat) → va_W} {wr : va_W}
theorem pE_pre {av : List Value} (hE : kX X s) (hP : va_P X.1 vwCl W0 H) (hD : va_D A W0) : FrameBlind (va_Pc av (pE X W0 H.size)) ∧ ∀ U : State, U.heap = H → s.WarmedH U.vm → va_Pc av (pE X W0 H.size) av.toArray U :=
  ⟨fun a U g mk q => ⟨q.1, q.2.1, q.2.2.1, kX.same (u := U) rfl q.2.2.2.1, q.2.2.2.2⟩, fun U hU hW => ⟨rfl, by rw [hU], by rw [hU]; exact hP, hE.warm hW, hD.weaken (fun _ _ _ _ => trivial)⟩⟩
/-- behind a call that made cells: its world beside the rest -/
theorem e_back (hG : gE X A H0 ws H locs) (isC isR : List Nat) (hC : isC.map (fun i => ws[i]?) = W0.map some) (hR : isR.map (fun i => ws[i]?) = wr.map some) (hn : va_nd isR = true) (hdis : ∀ i ∈ isR, i ∉ isC) {a : Array Value} (hr : va_Run p l e R s m args below meth c H locs cells slots mc ms (F0 m pc ls st0) rest (va_Qv (fun _ : Nat → Nat => True) (fun u t => va_P X.1 vwCl (W1 u) t.heap ∧ va_D (va_A W0 H.size) (W1 u)) (va_A W0 H.size) a) (va_A W0 H.size))
    (kk : ∀ (u : Nat → Nat) (H1 : Heap) (locs1 : List Loc), gE X A H0 (wr ++ W1 u) H1 locs1 → W p l e R s m args below meth c H1 locs1 (cells + mc) (slots + ms) Q (F0 m (pc + 3) ls rest)) : W p l e R s m args below meth c H locs cells slots Q (F0 m pc ls st0) := by
  have hF := va_free (wc := W0) hG.2.1 hG.2.2.1 hG.2.2.2 isC hC
  refine va_callv hr hG.2.2.1 (fun q _ h => hF q h) hF (fun u t H1 locs1 ht _ _ hB _ hk hS => ?_)
  obtain ⟨hP1, hD1⟩ := hB
  rw [ht] at hP1
  obtain ⟨h1, h2⟩ := va_join (wr := wr) (w1 := W1 u) hG.1 hG.2.1 isC isR hC hR hn hdis hk hF hP1 hD1
  exact kk u H1 locs1 ⟨h1, h2, hS, hG.2.2.2⟩
theorem e_init (hE : eV p m c cc nL s args Ts own X) (hG : gE X A H0 ws H locs) (isC isR : List Nat) (hM : mC X l y wd rm [.ref a] W0 W1 mc ms) (hg : GoodIn Ts wd) (hw : wd = Cond.code y bytes maxL none :: wd') (hrc : rm.cells = mc) (hrs : rm.slots = ms) (hini : Cond.initialized y.cls ∈ Ts) (hl : Cond.methodLink own index y ∈ Ts) (hins : Cond.instanceMethod y ∈ Ts) (hy1 : y.name = "<init>") (hd : y.cls ≠ "java/lang/invoke/MethodHandle" ∧ y.cls ≠ "java/lang/invoke/VarHandle" ∧ (parseMethodDescriptor y.desc).map (fun d => d.parameters.length) = some 0) (hRm : rm.frames + 1 ≤ R.frames ∧ 8 + (maxL + 11) + rm.locals ≤ R.locals) (hls : ls.size = nL) (hroom : (rest.map fun v => v.category).sum ≤ 8) (hdg : decode cc pc = .ok (.invokespecial index, 3)) (hcs : cells + mc ≤ R.cells ∧ slots + ms ≤ R.slots)
    (hC : isC.map (fun i => ws[i]?) = W0.map some) (hR : isR.map (fun i => ws[i]?) = wr.map some) (hn : va_nd isR = true) (hnC : va_nd isC = true) (hdis : ∀ i ∈ isR, i ∉ isC)
    (kk : ∀ (u : Nat → Nat) (H1 : Heap) (locs1 : List Loc), gE X A H0 (wr ++ W1 u) H1 locs1 → W p l e R s m args below meth c H1 locs1 (cells + mc) (slots + ms) Q (F0 m (pc + 3) ls rest)) : W p l e R s m args below meth c H locs cells slots Q (F0 m pc ls (.ref a :: rest)) := by
  have hP0 : va_P X.1 vwCl W0 H := fun k q hq => by
    have h1 : (isC.map (fun i => ws[i]?))[k]? = some (some q) := by rw [hC, List.getElem?_map, hq]; rfl
    rw [List.getElem?_map] at h1
    cases hi : isC[k]? with
    | none => rw [hi] at h1; cases h1
    | some i => rw [hi] at h1; exact hG.1 i q (Option.some.inj h1)
  exact e_back hG isC isR hC hR hn hdis (va_runI (As := []) hE.1 (hM H.size) (cwI 0 hE.1.2.2.2.2 hg hw hrc hrs (hE.1.2.2.2.2 _ hini) (hE.1.2.2.2.2 _ hl) (hE.1.2.2.2.2 _ hins) hy1 hd hRm) (pE_pre hE.2 hP0 (hG.2.1.sub isC hnC hC)) rfl rfl hls rfl (lv_room hroom) hdg hcs) kk
theorem e_initN (hE : eV p m c cc nL s args Ts own X) (hG : gE X A H0 ws H locs) (isC isR : List Nat) {host : String} (hM : mC X l y wd rm [.ref a] W0 W1 mc ms) (hg : GoodIn Ts wd) (hw : wd = Cond.code y bytes maxL none :: wd') (hrc : rm.cells = mc) (hrs : rm.slots = ms) (hini : Cond.initialized y.cls ∈ Ts) (hl : va_Nw (.methodLinkNest own index y host) s) (hins : Cond.instanceMethod y ∈ Ts) (hy1 : y.name = "<init>") (hd : y.cls ≠ "java/lang/invoke/MethodHandle" ∧ y.cls ≠ "java/lang/invoke/VarHandle" ∧ (parseMethodDescriptor y.desc).map (fun d => d.parameters.length) = some 0) (hRm : rm.frames + 1 ≤ R.frames ∧ 8 + (maxL + 11) + rm.locals ≤ R.locals) (hls : ls.size = nL) (hroom : (rest.map fun v => v.category).sum ≤ 8) (hdg : decode cc pc = .ok (.invokespecial index, 3)) (hcs : cells + mc ≤ R.cells ∧ slots + ms ≤ R.slots)
    (hC : isC.map (fun i => ws[i]?) = W0.map some) (hR : isR.map (fun i => ws[i]?) = wr.map some) (hn : va_nd isR = true) (hnC : va_nd isC = true) (hdis : ∀ i ∈ isR, i ∉ isC)
    (kk : ∀ (u : Nat → Nat) (H1 : Heap) (locs1 : List Loc), gE X A H0 (wr ++ W1 u) H1 locs1 → W p l e R s m args below meth c H1 locs1 (cells + mc) (slots + ms) Q (F0 m (pc + 3) ls rest)) : W p l e R s m args below meth c H locs cells slots Q (F0 m pc ls (.ref a :: rest)) := by
  have hP0 : va_P X.1 vwCl W0 H := fun k q hq => by
    have h1 : (isC.map (fun i => ws[i]?))[k]? = some (some q) := by rw [hC, List.getElem?_map, hq]; rfl
    rw [List.getElem?_map] at h1
    cases hi : isC[k]? with
    | none => rw [hi] at h1; cases h1
    | some i => rw [hi] at h1; exact hG.1 i q (Option.some.inj h1)
  exact e_back hG isC isR hC hR hn hdis (va_runIN (As := []) hE.1 (hM H.size) ⟨va_cnB 0 hE.1.2.2.2.2 hg hw hrc hrs hl (hE.1.2.2.2.2 _ hini) hd hRm, hy1, hE.1.2.2.2.2 _ hins⟩ (pE_pre hE.2 hP0 (hG.2.1.sub isC hnC hC)) rfl rfl hls rfl (lv_room hroom) hdg hcs) kk
/-- a void method of an object, in a plain world (Knots.add as Rail's constructor calls it) -/
theorem e_virt (hE : eV p m c cc nL s args Ts own X) (hG : gE X A H0 ws H locs) (isC isR : List Nat) {C : String} {ci q0 : Nat} {fs : List Value} {q : vw_C} (hM : mC X l y wd rm (Value.ref a :: As) W0 W1 mc ms) (hg : GoodIn Ts (wsV own index C y wd)) (hw : wd = Cond.code y bytes maxL none :: wd') (hrc : rm.cells = mc) (hrs : rm.slots = ms) (hd : y.cls = C ∧ y.cls ≠ "java/lang/invoke/MethodHandle" ∧ y.cls ≠ "java/lang/invoke/VarHandle" ∧ (parseMethodDescriptor y.desc).map (fun d => d.parameters.length) = some n) (hRm : rm.frames + 1 ≤ R.frames ∧ 8 + (maxL + 11) + rm.locals ≤ R.locals) (he : ws[q0]? = some (a, .inr (ci, fs))) (hc : vwCl[ci]? = some q) (hq : q.1 = C) (hlen : As.length = n) (hls : ls.size = nL) (hroom : (rest.map fun v => v.category).sum ≤ 8) (hdg : decode cc pc = .ok (.invokevirtual index, 3)) (hcs : cells + mc ≤ R.cells ∧ slots + ms ≤ R.slots)
    (hC : isC.map (fun i => ws[i]?) = W0.map some) (hR : isR.map (fun i => ws[i]?) = wr.map some) (hn : va_nd isR = true) (hnC : va_nd isC = true) (hdis : ∀ i ∈ isR, i ∉ isC)
    (kk : ∀ (u : Nat → Nat) (H1 : Heap) (locs1 : List Loc), gE X A H0 (wr ++ W1 u) H1 locs1 → W p l e R s m args below meth c H1 locs1 (cells + mc) (slots + ms) Q (F0 m (pc + 3) ls rest)) : W p l e R s m args below meth c H locs cells slots Q (F0 m pc ls (As.reverse ++ .ref a :: rest)) := by
  subst hq
  have hP0 : va_P X.1 vwCl W0 H := fun k q hq => by
    have h1 : (isC.map (fun i => ws[i]?))[k]? = some (some q) := by rw [hC, List.getElem?_map, hq]; rfl
    rw [List.getElem?_map] at h1
    cases hi : isC[k]? with
    | none => rw [hi] at h1; cases h1
    | some i => rw [hi] at h1; exact hG.1 i q (Option.some.inj h1)
  exact e_back hG isC isR hC hR hn hdis (va_runV hE.1 (hM H.size) (cwV n hE.1.2.2.2.2 hg hw hrc hrs hd hRm) ⟨(pE_pre hE.2 hP0 (hG.2.1.sub isC hnC hC)).1, va_recv hE.2.1 hG.1 hc he, (pE_pre hE.2 hP0 (hG.2.1.sub isC hnC hC)).2⟩ rfl hlen hls rfl (lv_room hroom) hdg hcs) kk
end ERows
