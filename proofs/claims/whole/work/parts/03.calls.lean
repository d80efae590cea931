section CRows
variable {p : Program} {l : Launch} {e : Env} {R : Room} {s : State} {m : MethodId} {args : Array Value} {below : List Frame} {meth : Method} {c : Code} {H : Heap} {locs : List Loc} {cells slots : Nat} {Q : State → Prop}
variable {cc : ByteArray} {pc nL : Nat} {ls : Array Slot} {rest : List Value} {X : wX} {kL : List Nat} {A : Nat → Prop} {H0 : Heap} {σ : St} {Ts : List Cond} {own : String}
variable {y : MethodName} {bytes : ByteArray} {maxL index n o ci : Nat} {ret : Option FieldType} {ws ws' : List Cond} {rm : Room} {C : String} {As st0 fs : List Value} {q : vw_C} {a : Array Value}
theorem pG_pre {av : List Value} (hE : kX X s) (hG : gW X kL A H0 σ H locs) : FrameBlind (va_Pc av (pG X kL σ H.size)) ∧ ∀ U : State, U.heap = H → s.WarmedH U.vm → va_Pc av (pG X kL σ H.size) av.toArray U :=
  ⟨fun a U g mk q => ⟨q.1, q.2.1, q.2.2.1, kX.same (u := U) rfl q.2.2.2.1, q.2.2.2.2⟩, fun U hU hW => ⟨rfl, by rw [hU], by rw [hU]; exact hG.1, hE.warm hW, hG.2.1.weaken (fun _ _ _ _ => trivial)⟩⟩
theorem gA (hG : gW X kL A H0 σ H locs) : ∀ q, va_A (wsl X kL σ) H.size q → A q := by
  intro q h
  rcases h with ⟨k, e, h⟩ | h
  · exact hG.2.1.2 k _ h
  · exact hG.2.2.2 q (Nat.le_trans hG.2.2.1.1 h)
theorem g_runV (hE : eV p m c cc nL s args Ts own X) (hG : gW X kL A H0 σ H locs) {Qc : Array Value → State → Outcome → State → Prop} {free : Addr → Prop} (hM : Met l y ws rm (va_Pc (Value.ref (X.2.1 o) :: As) (pG X kL σ H.size)) Qc 0 0 free) (hg : GoodIn Ts (wsV own index C y ws)) (hws : ws = Cond.code y bytes maxL ret :: ws') (hrc : rm.cells = 0) (hrs : rm.slots = 0) (hd : y.cls = C ∧ y.cls ≠ "java/lang/invoke/MethodHandle" ∧ y.cls ≠ "java/lang/invoke/VarHandle" ∧ (parseMethodDescriptor y.desc).map (fun d => d.parameters.length) = some n) (hR : rm.frames + 1 ≤ R.frames ∧ 8 + (maxL + 11) + rm.locals ≤ R.locals) (hlt : o < kL.length) (hce : CE X kL o (σ o) = .inr (ci, fs)) (hc : vwCl[ci]? = some q) (hq : q.1 = C) (hn : As.length = n) (hls : ls.size = nL) (hroom : (rest.map fun v => v.category).sum ≤ 8) (hdg : decode cc pc = .ok (.invokevirtual index, 3)) (hcs : cells ≤ R.cells ∧ slots ≤ R.slots) :
    va_Run p l e R s m args below meth c H locs cells slots 0 0 (F0 m pc ls (As.reverse ++ .ref (X.2.1 o) :: rest)) rest (Qc (Value.ref (X.2.1 o) :: As).toArray) free := by
  subst hq
  exact va_runV hE.1 hM (cwV n hE.1.2.2.2.2 hg hws hrc hrs hd hR) ⟨(pG_pre hE.2 hG).1, va_recv hE.2.1 hG.1 (ci := ci) (q0 := o) hc (by rw [wsl_get hlt, hce]), (pG_pre hE.2 hG).2⟩ rfl hn hls rfl (lv_room hroom) hdg hcs
theorem g_runS (hE : eV p m c cc nL s args Ts own X) (hG : gW X kL A H0 σ H locs) {Qc : Array Value → State → Outcome → State → Prop} {free : Addr → Prop} (hM : Met l y ws rm (va_Pc As (pG X kL σ H.size)) Qc 0 0 free) (hg : GoodIn Ts (va_wsS own index y ws)) (hws : ws = Cond.code y bytes maxL ret :: ws') (hrc : rm.cells = 0) (hrs : rm.slots = 0) (hd : y.cls ≠ "java/lang/invoke/MethodHandle" ∧ y.cls ≠ "java/lang/invoke/VarHandle" ∧ (parseMethodDescriptor y.desc).map (fun d => d.parameters.length) = some n) (hR : rm.frames + 1 ≤ R.frames ∧ 8 + (maxL + 11) + rm.locals ≤ R.locals) (hn : As.length = n) (hls : ls.size = nL) (hroom : (rest.map fun v => v.category).sum ≤ 8) (hdg : decode cc pc = .ok (.invokestatic index, 3)) (hcs : cells ≤ R.cells ∧ slots ≤ R.slots) :
    va_Run p l e R s m args below meth c H locs cells slots 0 0 (F0 m pc ls (As.reverse ++ rest)) rest (Qc As.toArray) free :=
  va_runS hE.1 hM (va_cwS n hE.1.2.2.2.2 hg hws hrc hrs hd hR) (pG_pre hE.2 hG) rfl hn hls rfl (lv_room hroom) hdg hcs
theorem g_runN (hE : eV p m c cc nL s args Ts own X) (hG : gW X kL A H0 σ H locs) {host : String} {Qc : Array Value → State → Outcome → State → Prop} {free : Addr → Prop} (hM : Met l y ws rm (va_Pc As (pG X kL σ H.size)) Qc 0 0 free) (hg : GoodIn Ts ws) (hws : ws = Cond.code y bytes maxL ret :: ws') (hrc : rm.cells = 0) (hrs : rm.slots = 0) (hnest : va_Nw (.methodLinkNest own index y host) s) (hini : Cond.initialized y.cls ∈ Ts) (hst : Cond.static y ∈ Ts) (hd : y.cls ≠ "java/lang/invoke/MethodHandle" ∧ y.cls ≠ "java/lang/invoke/VarHandle" ∧ (parseMethodDescriptor y.desc).map (fun d => d.parameters.length) = some n) (hR : rm.frames + 1 ≤ R.frames ∧ 8 + (maxL + 11) + rm.locals ≤ R.locals) (hn : As.length = n) (hls : ls.size = nL) (hroom : (rest.map fun v => v.category).sum ≤ 8) (hdg : decode cc pc = .ok (.invokestatic index, 3)) (hcs : cells ≤ R.cells ∧ slots ≤ R.slots) :
    va_Run p l e R s m args below meth c H locs cells slots 0 0 (F0 m pc ls (As.reverse ++ rest)) rest (Qc As.toArray) free :=
  va_runSN hE.1 hM ⟨va_cnB n hE.1.2.2.2.2 hg hws hrc hrs hnest (hE.1.2.2.2.2 _ hini) hd hR, hE.1.2.2.2.2 _ hst, trivial⟩ (pG_pre hE.2 hG) rfl hn hls rfl (lv_room hroom) hdg hcs
theorem g_calli (hG : gW X kL A H0 σ H locs) {Qp : Int32 → St → Prop} (hr : va_Run p l e R s m args below meth c H locs cells slots 0 0 (F0 m pc ls st0) rest (va_Qi Qp (fun τ t => va_P X.1 vwCl (wsl X kL τ) t.heap) (va_A (wsl X kL σ) H.size) a) (va_A (wsl X kL σ) H.size))
    (kk : ∀ (r : Int32) (τ : St) (H1 : Heap) (locs1 : List Loc), Qp r τ → gW X kL A H0 τ H1 locs1 → W p l e R s m args below meth c H1 locs1 cells slots Q (F0 m (pc + 3) ls (.int r :: rest))) : W p l e R s m args below meth c H locs cells slots Q (F0 m pc ls st0) :=
  va_calli hr hG.2.2.1 (fun q _ h => gA hG q h) (gA hG) (fun r u t H1 locs1 ht _ hw hB _ _ hS => kk r u H1 locs1 hw ⟨by rw [← ht]; exact hB, wsl_D hG.2.1, hS, hG.2.2.2⟩)
theorem g_calll (hG : gW X kL A H0 σ H locs) {Qp : Int64 → St → Prop} (hr : va_Run p l e R s m args below meth c H locs cells slots 0 0 (F0 m pc ls st0) rest (va_Ql Qp (fun τ t => va_P X.1 vwCl (wsl X kL τ) t.heap) (va_A (wsl X kL σ) H.size) a) (va_A (wsl X kL σ) H.size))
    (kk : ∀ (r : Int64) (τ : St) (H1 : Heap) (locs1 : List Loc), Qp r τ → gW X kL A H0 τ H1 locs1 → W p l e R s m args below meth c H1 locs1 cells slots Q (F0 m (pc + 3) ls (.long r :: rest))) : W p l e R s m args below meth c H locs cells slots Q (F0 m pc ls st0) :=
  va_calll hr hG.2.2.1 (fun q _ h => gA hG q h) (gA hG) (fun r u t H1 locs1 ht _ hw hB _ _ hS => kk r u H1 locs1 hw ⟨by rw [← ht]; exact hB, wsl_D hG.2.1, hS, hG.2.2.2⟩)
theorem g_callv (hG : gW X kL A H0 σ H locs) {Qp : St → Prop} (hr : va_Run p l e R s m args below meth c H locs cells slots 0 0 (F0 m pc ls st0) rest (va_Qv Qp (fun τ t => va_P X.1 vwCl (wsl X kL τ) t.heap) (va_A (wsl X kL σ) H.size) a) (va_A (wsl X kL σ) H.size))
    (kk : ∀ (τ : St) (H1 : Heap) (locs1 : List Loc), Qp τ → gW X kL A H0 τ H1 locs1 → W p l e R s m args below meth c H1 locs1 cells slots Q (F0 m (pc + 3) ls rest)) : W p l e R s m args below meth c H locs cells slots Q (F0 m pc ls st0) :=
  va_callv hr hG.2.2.1 (fun q _ h => gA hG q h) (gA hG) (fun u t H1 locs1 ht _ hw hB _ _ hS => kk u H1 locs1 hw ⟨by rw [← ht]; exact hB, wsl_D hG.2.1, hS, hG.2.2.2⟩)
theorem g_callr (hG : gW X kL A H0 σ H locs) {Qp : Nat → St → Prop} (hr : va_Run p l e R s m args below meth c H locs cells slots 0 0 (F0 m pc ls st0) rest (va_Qr (fun u : Nat × St => Qp u.1 u.2) (fun u a t => a = X.2.1 u.1 ∧ va_P X.1 vwCl (wsl X kL u.2) t.heap) (va_A (wsl X kL σ) H.size) a) (va_A (wsl X kL σ) H.size))
    (kk : ∀ (r : Nat) (τ : St) (H1 : Heap) (locs1 : List Loc), Qp r τ → gW X kL A H0 τ H1 locs1 → W p l e R s m args below meth c H1 locs1 cells slots Q (F0 m (pc + 3) ls (.ref (X.2.1 r) :: rest))) : W p l e R s m args below meth c H locs cells slots Q (F0 m pc ls st0) :=
  va_callr hr hG.2.2.1 (fun q _ h => gA hG q h) (gA hG) (fun u ra t H1 locs1 ht _ hw hB _ _ hS => by
    obtain ⟨e1, hB⟩ := hB
    subst e1
    exact kk u.1 u.2 H1 locs1 hw ⟨by rw [← ht]; exact hB, wsl_D hG.2.1, hS, hG.2.2.2⟩)
theorem g_callrV (hE : eV p m c cc nL s args Ts own X) (hG : gW X kL A H0 σ H locs) {Qp : Nat → St → Prop} (hM : mR X kL l y ws rm (Value.ref (X.2.1 o) :: As) σ Qp) (hg : GoodIn Ts (wsV own index C y ws)) (hws : ws = Cond.code y bytes maxL ret :: ws') (hrc : rm.cells = 0) (hrs : rm.slots = 0) (hd : y.cls = C ∧ y.cls ≠ "java/lang/invoke/MethodHandle" ∧ y.cls ≠ "java/lang/invoke/VarHandle" ∧ (parseMethodDescriptor y.desc).map (fun d => d.parameters.length) = some n) (hR : rm.frames + 1 ≤ R.frames ∧ 8 + (maxL + 11) + rm.locals ≤ R.locals) (hlt : o < kL.length) (hce : CE X kL o (σ o) = .inr (ci, fs)) (hc : vwCl[ci]? = some q) (hq : q.1 = C) (hn : As.length = n) (hls : ls.size = nL) (hroom : (rest.map fun v => v.category).sum ≤ 8) (hdg : decode cc pc = .ok (.invokevirtual index, 3)) (hcs : cells ≤ R.cells ∧ slots ≤ R.slots)
    (kk : ∀ (r : Nat) (τ : St) (H1 : Heap) (locs1 : List Loc), Qp r τ → gW X kL A H0 τ H1 locs1 → W p l e R s m args below meth c H1 locs1 cells slots Q (F0 m (pc + 3) ls (.ref (X.2.1 r) :: rest))) : W p l e R s m args below meth c H locs cells slots Q (F0 m pc ls (As.reverse ++ .ref (X.2.1 o) :: rest)) :=
  g_callr hG (g_runV hE hG (hM H.size) hg hws hrc hrs hd hR hlt hce hc hq hn hls hroom hdg hcs) kk
end CRows
/-! the kinds of the class's cells, and of the reference's -/
def kcL : List Nat := [9, 3, 300, 301, 2, 108, 108, 2, 108, 108, 2, 108, 108, 2, 108, 108, 2, 108, 108, 2, 108, 108, 2, 108, 108, 8, 8, 8, 8, 8, 8, 8, 8, 8, 8, 8, 8, 8, 8, 8, 8, 7, 302, 4, 106, 106, 4, 106, 106, 4, 106, 106, 4, 106, 106, 6, 106, 5, 130, 130, 230, 130, 130, 106, 0, 303, 1, 1, 1, 1, 1, 1, 1, 1, 1, 1, 1, 1, 106, 104, 104, 107]
def kmL : List Nat := [10, 148, 148, 117, 117, 117, 117, 103, 118, 118, 106, 106, 106, 106, 106, 104, 104, 130, 130, 230, 130, 130, 112, 112, 112, 112, 112, 112, 112, 107, 106, 106]
section Kinds
variable {X : wX} {kL : List Nat} {o : Nat} {r : Nat → Int32}
theorem ce_0 (h : kL.getD o 999 = 0) : CE X kL o r = .inr (0, [.ref (X.2.1 65), .int (r 1), .int (r 2)]) := by unfold CE; rw [h]; rfl
theorem ce_1 (h : kL.getD o 999 = 1) : CE X kL o r = .inr (1, [.int (r 0), .int (r 1), .int (r 2), .int (r 3), .int (r 4), .int (r 5), .int (r 6)]) := by unfold CE; rw [h]; rfl
theorem ce_2 (h : kL.getD o 999 = 2) : CE X kL o r = .inr (2, [.ref (X.2.1 (o + 1)), .ref (X.2.1 (o + 2))]) := by unfold CE; rw [h]; rfl
theorem ce_3 (h : kL.getD o 999 = 3) : CE X kL o r = .inr (3, [.ref (X.2.1 2), .ref (X.2.1 3), .ref (X.2.1 22), .int (r 3), .int (r 4)]) := by unfold CE; rw [h]; rfl
theorem ce_4 (h : kL.getD o 999 = 4) : CE X kL o r = .inr (4, [.ref (X.2.1 (o + 1)), .ref (X.2.1 (o + 2)), .int (r 2)]) := by unfold CE; rw [h]; rfl
theorem ce_5 (h : kL.getD o 999 = 5) : CE X kL o r = .inr (5, [.ref (X.2.1 58), .ref (X.2.1 59), .ref (X.2.1 60), .ref (X.2.1 61), .ref (X.2.1 62), .ref (X.2.1 63)]) := by unfold CE; rw [h]; rfl
theorem ce_6 (h : kL.getD o 999 = 6) : CE X kL o r = .inr (6, [.ref (X.2.1 56), .int (r 1), .int (r 2)]) := by unfold CE; rw [h]; rfl
theorem ce_7 (h : kL.getD o 999 = 7) : CE X kL o r = .inr (7, [.ref (X.2.1 42), .ref (X.2.1 (r 1).toNatClampNeg)]) := by unfold CE; rw [h]; rfl
theorem ce_8 (h : kL.getD o 999 = 8) : CE X kL o r = .inr (8, [.int (r 0), .int (r 1), .int (r 2), .int (r 3)]) := by unfold CE; rw [h]; rfl
theorem ce_9 (h : kL.getD o 999 = 9) : CE X kL o r = .inr (9, [.ref (X.2.1 1), .ref (X.2.1 41), .ref (X.2.1 55), .ref (X.2.1 57), .ref (X.2.1 64), .ref (X.2.1 78), .ref (X.2.1 79), .ref (X.2.1 80), .ref (X.2.1 81), .int (r 9), .int (r 10), .int (r 11), .int (r 12), .int (r 13), .int (r 14)]) := by unfold CE; rw [h]; rfl
theorem ce_10 (h : kL.getD o 999 = 10) : CE X kL o r = .inr (10, [.ref (X.2.1 1), .ref (X.2.1 2), .int (r 2), .ref (X.2.1 3), .ref (X.2.1 4), .ref (X.2.1 5), .ref (X.2.1 6), .int (r 7), .ref (X.2.1 7), .ref (X.2.1 8), .ref (X.2.1 9), .int (r 11), .ref (X.2.1 10), .ref (X.2.1 11), .int (r 14), .ref (X.2.1 12), .int (r 16), .ref (X.2.1 13), .ref (X.2.1 14), .ref (X.2.1 15), .ref (X.2.1 16), .ref (X.2.1 17), .ref (X.2.1 18), .ref (X.2.1 19), .ref (X.2.1 20), .ref (X.2.1 21), .int (r 26), .int (r 27), .int (r 28), .int (r 29), .int (r 30), .int (r 31), .int (r 32), .ref (X.2.1 22), .ref (X.2.1 23), .ref (X.2.1 24), .ref (X.2.1 25), .ref (X.2.1 26), .ref (X.2.1 27), .ref (X.2.1 28), .ref (X.2.1 29), .int (r 41), .int (r 42), .ref (X.2.1 30), .ref (X.2.1 31)]) := by unfold CE; rw [h]; rfl
theorem ce_300 (h : kL.getD o 999 = 300) : CE X kL o r = .inl (X.2.2 2, 6, .inr (.inr (.inr (.inr (fun j => some (X.2.1 (4 + 3 * j))))))) := by unfold CE; rw [h]; rfl
theorem ce_301 (h : kL.getD o 999 = 301) : CE X kL o r = .inl (X.2.2 3, 16, .inr (.inr (.inr (.inr (fun j => some (X.2.1 (25 + j))))))) := by unfold CE; rw [h]; rfl
theorem ce_302 (h : kL.getD o 999 = 302) : CE X kL o r = .inl (X.2.2 4, 3, .inr (.inr (.inr (.inr (fun j => some (X.2.1 (r j).toNatClampNeg)))))) := by unfold CE; rw [h]; rfl
theorem ce_303 (h : kL.getD o 999 = 303) : CE X kL o r = .inl (X.2.2 5, 12, .inr (.inr (.inr (.inr (fun j => some (X.2.1 (66 + j))))))) := by unfold CE; rw [h]; rfl
theorem ce_int {k : Nat} (h : kL.getD o 999 = k) (h1 : 100 ≤ k) (h2 : k < 200) : CE X kL o r = .inl (X.2.2 0, k - 100, .inl r) := by
  unfold CE
  rw [h, if_neg (by omega), if_neg (by omega), if_neg (by omega), if_neg (by omega), if_neg (by omega), if_neg (by omega), if_neg (by omega), if_neg (by omega), if_neg (by omega), if_neg (by omega), if_neg (by omega), if_neg (by omega), if_neg (by omega), if_neg (by omega), if_neg (by omega), if_pos h2]
theorem ce_230 (h : kL.getD o 999 = 230) : CE X kL o r = .inl (X.2.2 1, 30, .inl r) := by unfold CE; rw [h]; rfl
theorem ce_arms {i x : Int32} (h : kL.getD o 999 = 302) : CE X kL o (upd r i.toNatClampNeg x) = .inl (X.2.2 4, 3, .inr (.inr (.inr (.inr (va_up (fun j => some (X.2.1 (r j).toNatClampNeg)) i.toNatClampNeg (some (X.2.1 x.toNatClampNeg))))))) := by
  rw [ce_302 h]
  congr 7
  funext j
  by_cases hj : j = i.toNatClampNeg
  · simp [upd, va_up, hj]
  · simp [upd, va_up, hj]
end Kinds
theorem vp_lt {i : Int32} {n : Nat} (h : vp_in i n) : i.toNatClampNeg < n := Nat.not_le.mp fun q => h (Or.inr q)
theorem kc_dr : ∀ o, o < 82 → kcL.getD o 999 = 2 → kcL.getD (o + 1) 999 = 108 ∧ kcL.getD (o + 2) 999 = 108 := by decide +kernel
theorem kc_kn : ∀ o, o < 82 → kcL.getD o 999 = 4 → kcL.getD (o + 1) 999 = 106 ∧ kcL.getD (o + 2) 999 = 106 := by decide +kernel
theorem kc_on {o : Nat} (h : kcL.getD o 999 = 2) : kcL.getD (o + 1) 999 = 108 := (kc_dr o (kd_lt h (by decide)) h).1
theorem kc_off {o : Nat} (h : kcL.getD o 999 = 2) : kcL.getD (o + 2) 999 = 108 := (kc_dr o (kd_lt h (by decide)) h).2
theorem kc_deg {o : Nat} (h : kcL.getD o 999 = 4) : kcL.getD (o + 1) 999 = 106 := (kc_kn o (kd_lt h (by decide)) h).1
theorem kc_plc {o : Nat} (h : kcL.getD o 999 = 4) : kcL.getD (o + 2) 999 = 106 := (kc_kn o (kd_lt h (by decide)) h).2
theorem kc_rowsN : ∀ j, j < 6 → kcL.getD (4 + 3 * j) 999 = 2 := by decide +kernel
theorem kc_lawsN : ∀ j, j < 16 → kcL.getD (25 + j) 999 = 8 := by decide +kernel
theorem kc_ringN : ∀ j, j < 12 → kcL.getD (66 + j) 999 = 1 := by decide +kernel
theorem kc_rows {i : Int32} (h : vp_in i 6) : kcL.getD (4 + 3 * i.toNatClampNeg) 999 = 2 := kc_rowsN _ (vp_lt h)
theorem kc_laws {i : Int32} (h : vp_in i 16) : kcL.getD (25 + i.toNatClampNeg) 999 = 8 := kc_lawsN _ (vp_lt h)
theorem kc_ring {i : Int32} (h : vp_in i 12) : kcL.getD (66 + i.toNatClampNeg) 999 = 1 := kc_ringN _ (vp_lt h)
section ARows
variable {p : Program} {l : Launch} {e : Env} {R : Room} {s : State} {m : MethodId} {args : Array Value} {below : List Frame} {meth : Method} {c : Code} {H : Heap} {locs : List Loc} {cells slots : Nat} {Q : State → Prop}
variable {cc : ByteArray} {pc nL : Nat} {ls : Array Slot} {rest : List Value} {X : wX} {kL : List Nat} {A : Nat → Prop} {H0 : Heap} {σ : St} {Ts : List Cond} {own : String}
/-- arms[i] = a Knots -/
theorem g_arms (hE : eV p m c cc nL s args Ts own X) (hG : gW X kL A H0 σ H locs) {o : Nat} {i x : Int32} (h : kL.getD o 999 = 302) (hv : kL.getD x.toNatClampNeg 999 = 4) (hin : vp_in i 3) (hdg : decode cc pc = .ok (.aastore, 1))
    (kk : ∀ (τ : St) (H1 : Heap) (locs1 : List Loc), τ = up2 σ o i.toNatClampNeg x → gW X kL A H0 τ H1 locs1 → W p l e R s m args below meth c H1 locs1 cells slots Q (F0 m (pc + 1) ls rest)) : W p l e R s m args below meth c H locs cells slots Q (F0 m pc ls (.ref (X.2.1 x.toNatClampNeg) :: .int i :: .ref (X.2.1 o) :: rest)) := by
  have hlt := kd_lt h (by decide)
  refine va_astq hE.1.1 hE.1.2.1 hE.2.1 hG.1 hG.2.1 hG.2.2.1 o 4 x.toNatClampNeg 4 (by rw [wsl_get hlt, ce_302 h]) (r := (RX4, TX4, 3)) rfl (by rw [wsl_get (kd_lt hv (by decide)), ce_4 hv]) rfl hin hdg (fun H1 locs1 h1 h2 h3 => ?_)
  rw [← ce_arms h, wsl_set hlt] at h1 h2
  exact kk _ H1 locs1 rfl ⟨h1, h2, h3, hG.2.2.2⟩
end ARows
