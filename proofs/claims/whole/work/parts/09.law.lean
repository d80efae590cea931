/-! THE CLAIM OUT OF ONE WALK OF THE LAW'S BODY. Your part is whole_start (and what it stands on); all else here is the same for every law, but numbers. -/
def R_law : String := "GobRowLaw"
def lw_P (b : Addr) (xs : List Int32) (args : Array Value) (s : State) : Prop := args = #[.ref b] ∧ s.IntsAt b xs ∧ xs.length ≤ 2560 ∧ (Jvm.Cond.and given_1 narrow_1).before args s = true
def lw_Q (_ : Array Value) (s : State) (o : Outcome) (t : State) : Prop := o = .returned (some (.int 1)) ∧ Framed s o t [] 600000 7302250
def lw_Z (below : List Frame) (a : Array Value) (s : State) : State → Prop := fun t => ∃ o, t.status = .running ∧ Ended t below o ∧ lw_Q a s o t
/-- the law's own end, with 1 on the stack, nothing written that was there before, its room as the claim has it -/
theorem lw_ret {p : Program} {l : Launch} {e : Env} {s : State} {m : MethodId} {below : List Frame} {meth : Method} {c : Code} {b : Nat} (hx : p.tables.exec = Jvm.exec) (hb : c.code = code) (hr : meth.sig.returnType = ret) (hlocks : meth.locks = false) {pc : Nat} {H : Heap} {ls : Array Slot} (hdg : decode code pc = .ok (.ireturn, 1)) : W p l e room_1 s m #[Value.ref b] below meth c H [] 600000 7302250 (lw_Z below #[Value.ref b] s) (F0 m pc ls [.int 1]) := by
  intro T hT X
  obtain ⟨fs, hret, hrun, hended, hW, hframe⟩ := X.leave (v := some (.int 1)) (hlocks := hlocks) (fun h => by rw [hr] at h; cases h)
  have hmeth' : T.vm.method? m = some meth := X.method'
  refine ⟨T.setFrames fs, ?_, .returned (some (.int 1)), hrun, hended, rfl, ⟨_, rfl⟩, hW, hframe⟩
  jvm_step X.here [X.here.top, hx, hb, hdg, hmeth', hr, ret, narrow_b1]
  (try refine ⟨rfl, ?_⟩); (try refine ⟨rfl, ?_⟩)
  first | (intro acts; rw [hret _ acts rfl rfl rfl]) | rw [hret _ _ rfl rfl rfl]
  exact Steps.refl _
/-- what holds at the law's entry: the machine, the code, the tables' words (any of lw_tbl by 'hts w (by decide +kernel)'), the script of L ints xs at the cell b, what the Statement gives of the start (any of its parts by flat_of_before) -/
def lw_At (p : Program) (s : State) (m : MethodId) (meth : Method) (c : Code) (b L : Nat) (xs : Nat → Int32) : Prop :=
  p.tables.exec = Jvm.exec ∧ c.code = code ∧ meth.sig.returnType = ret ∧ c.maxLocals = 4 ∧ s.vm.findClass R_law = some m.cls ∧ (∀ w ∈ lw_tbl, w.before #[Value.ref b] s = true) ∧ va_X b L xs s s.heap ∧ b < s.heap.size ∧ meth.locks = false ∧ (Jvm.Cond.and given_1 narrow_1).before #[Value.ref b] s = true
/-! the law's cases and its loop (wip/gen/law.py) -/
theorem law_sub {L : Nat} (hL : L ≤ 2560) : (Int32.ofNat L - 5).toInt = (L : Int) - 5 := by
  have h : Int32.ofNat L = nI L := rfl
  have h5 : (5 : Int32) = nI 5 := rfl
  rw [h, h5]
  exact pk_sub_toInt (by omega) (by omega)
theorem law_gt {j L : Nat} (h : L < j + 5) (hj : j ≤ 2565) (hL : L ≤ 2560) : Int32.ofNat L - 5 < nI j := by
  rw [Int32.lt_iff_toInt_lt, law_sub hL, nI_toInt (by omega)]
  omega
theorem law_ngt {j L : Nat} (h : j + 5 ≤ L) (hL : L ≤ 2560) : ¬ Int32.ofNat L - 5 < nI j := by
  rw [Int32.lt_iff_toInt_lt, law_sub hL, nI_toInt (by omega)]
  omega
def sm_set (RR : St → St → Prop) (σ μ : St) : Prop := ∀ a b c d : Int32, wp_X9_set (fun r σ => wp_X10_set (fun r2 μ => r = r2 ∧ RR σ μ) a b c d μ) a b c d σ
set_option maxHeartbeats 4000000 in
set_option maxRecDepth 100000 in
theorem lc_set {p : Program} {l : Launch} {e : Env} {s : State} {m : MethodId} {b L : Nat} {xs : Nat → Int32} {below : List Frame} {meth : Method} {c : Code} {X : wX} {ay : Nat → Nat} {A : Nat → Prop} {RR : St → St → Prop} {cells slots : Nat} {Q : State → Prop} {σ μ : St} {H : Heap} {locs : List Loc} {ls : Array Slot} {j : Nat} (hE : eV p m c code 4 s #[Value.ref b] wsL_law RL X) (hX : va_X b L xs s s.heap) (hbl : b < s.heap.size) (hbA : ¬ A b) (hL : L ≤ 2560) (hj : j + 5 ≤ L) (hcs : cells ≤ room_1.cells ∧ slots ≤ room_1.slots) (hG : gL X ay A s.heap σ μ H locs) (hl : lv_has ls 4 [(0, .ref b), (1, .ref (X.2.1 0)), (2, .ref (ay 0)), (3, .int (nI j))]) (hw : sm_set RR σ μ) (ih : ∀ (σ μ : St) (H : Heap) (locs : List Loc) (ls : Array Slot), RR σ μ → gL X ay A s.heap σ μ H locs → lv_has ls 4 [(0, .ref b), (1, .ref (X.2.1 0)), (2, .ref (ay 0)), (3, .int (nI (j + 5)))] → W p l e room_1 s m #[Value.ref b] below meth c H locs cells slots Q (F0 m 18 ls [])) : W p l e room_1 s m #[Value.ref b] below meth c H locs cells slots Q (F0 m 164 ls []) := by
  have hx := hE.1.1
  have hb := hE.1.2.1
  have hw := hw (xs (j + 1)) (xs (j + 2)) (xs (j + 3)) (xs (j + 4))
  refine lv_aload_n hx hb dL_law_164 rfl (lv_at hl 1 rfl) ?_
  refine lv_aload_n hx hb dL_law_165 rfl (lv_at hl 0 rfl) ?_
  refine lv_iload_n hx hb dL_law_166 rfl (lv_at hl 3 rfl) ?_
  refine lv_iconst (v := 1) hx hb dL_law_167 (by decide) ?_
  refine lv_iadd hx hb dL_law_168 ?_
  refine l_sld (k := j + 1) hx hb hX hbl hbA hG (nI_add j 1) (by omega) hL dL_law_169 ?_
  refine lv_aload_n hx hb dL_law_170 rfl (lv_at hl 0 rfl) ?_
  refine lv_iload_n hx hb dL_law_171 rfl (lv_at hl 3 rfl) ?_
  refine lv_iconst (v := 2) hx hb dL_law_172 (by decide) ?_
  refine lv_iadd hx hb dL_law_173 ?_
  refine l_sld (k := j + 2) hx hb hX hbl hbA hG (nI_add j 2) (by omega) hL dL_law_174 ?_
  refine lv_aload_n hx hb dL_law_175 rfl (lv_at hl 0 rfl) ?_
  refine lv_iload_n hx hb dL_law_176 rfl (lv_at hl 3 rfl) ?_
  refine lv_iconst (v := 3) hx hb dL_law_177 (by decide) ?_
  refine lv_iadd hx hb dL_law_178 ?_
  refine l_sld (k := j + 3) hx hb hX hbl hbA hG (nI_add j 3) (by omega) hL dL_law_179 ?_
  refine lv_aload_n hx hb dL_law_180 rfl (lv_at hl 0 rfl) ?_
  refine lv_iload_n hx hb dL_law_181 rfl (lv_at hl 3 rfl) ?_
  refine lv_iconst (v := 4) hx hb dL_law_182 (by decide) ?_
  refine lv_iadd hx hb dL_law_183 ?_
  refine l_sld (k := j + 4) hx hb hX hbl hbA hG (nI_add j 4) (by omega) hL dL_law_184 ?_
  refine l_callC hG (g_runV (o := 0) (rm := rm_X9_set) (As := [.int (xs (j + 1)), .int (xs (j + 2)), .int (xs (j + 3)), .int (xs (j + 4))]) (rest := []) (n := 4) (X := X) (own := RL) hE hG.c (m_X9_set l X hw _) gL_law_X9_set rfl rfl rfl (by decide +kernel) ⟨Nat.le_of_ble_eq_true rfl, Nat.le_of_ble_eq_true rfl⟩ (kd_lt kc0 (by decide)) (ce_9 kc0) rfl rfl rfl hl.1 (Nat.le_of_ble_eq_true rfl) dL_law_185 hcs) (fun r σ H locs hw hG => ?_)
  refine lv_aload_n hx hb dL_law_188 rfl (lv_at hl 2 rfl) ?_
  refine lv_aload_n hx hb dL_law_189 rfl (lv_at hl 0 rfl) ?_
  refine lv_iload_n hx hb dL_law_190 rfl (lv_at hl 3 rfl) ?_
  refine lv_iconst (v := 1) hx hb dL_law_191 (by decide) ?_
  refine lv_iadd hx hb dL_law_192 ?_
  refine l_sld (k := j + 1) hx hb hX hbl hbA hG (nI_add j 1) (by omega) hL dL_law_193 ?_
  refine lv_aload_n hx hb dL_law_194 rfl (lv_at hl 0 rfl) ?_
  refine lv_iload_n hx hb dL_law_195 rfl (lv_at hl 3 rfl) ?_
  refine lv_iconst (v := 2) hx hb dL_law_196 (by decide) ?_
  refine lv_iadd hx hb dL_law_197 ?_
  refine l_sld (k := j + 2) hx hb hX hbl hbA hG (nI_add j 2) (by omega) hL dL_law_198 ?_
  refine lv_aload_n hx hb dL_law_199 rfl (lv_at hl 0 rfl) ?_
  refine lv_iload_n hx hb dL_law_200 rfl (lv_at hl 3 rfl) ?_
  refine lv_iconst (v := 3) hx hb dL_law_201 (by decide) ?_
  refine lv_iadd hx hb dL_law_202 ?_
  refine l_sld (k := j + 3) hx hb hX hbl hbA hG (nI_add j 3) (by omega) hL dL_law_203 ?_
  refine lv_aload_n hx hb dL_law_204 rfl (lv_at hl 0 rfl) ?_
  refine lv_iload_n hx hb dL_law_205 rfl (lv_at hl 3 rfl) ?_
  refine lv_iconst (v := 4) hx hb dL_law_206 (by decide) ?_
  refine lv_iadd hx hb dL_law_207 ?_
  refine l_sld (k := j + 4) hx hb hX hbl hbA hG (nI_add j 4) (by omega) hL dL_law_208 ?_
  refine l_callM hG (g_runV (o := 0) (rm := rm_X10_set) (As := [.int (xs (j + 1)), .int (xs (j + 2)), .int (xs (j + 3)), .int (xs (j + 4))]) (rest := [.int r]) (n := 4) (X := (X.1, ay, X.2.2)) (own := RL) hE hG.m (m_X10_set l (X.1, ay, X.2.2) hw _) gL_law_X10_set rfl rfl rfl (by decide +kernel) ⟨Nat.le_of_ble_eq_true rfl, Nat.le_of_ble_eq_true rfl⟩ (kd_lt km0 (by decide)) (ce_10 km0) rfl rfl rfl hl.1 (Nat.le_of_ble_eq_true rfl) dL_law_209 hcs) (fun r2 μ H locs hw hG => ?_)
  refine lv_icmp_eq (tgt := 1077) hx hb dL_law_212 (by decide) (fun _ => ?_) (fun h => absurd hw.1 h)
  refine lv_iinc (v := nI (j + 5)) (lv' := [(3, .int (nI (j + 5))), (0, .ref b), (1, .ref (X.2.1 0)), (2, .ref (ay 0))]) hx hb dL_law_1077 hl (k := 3) rfl (nI_add j 5) (by decide) rfl (fun ls hl => ?_)
  refine lv_goto (tgt := 18) hx hb dL_law_1080 (by decide) ?_
  exact ih σ μ H locs ls hw.2 hG (lv_sub hl [1, 2, 3, 0] rfl)
def sm_turn (RR : St → St → Prop) (σ μ : St) : Prop := ∀ a b : Int32, wp_X9_turn (fun r σ => wp_X10_turn (fun r2 μ => r = r2 ∧ RR σ μ) a b μ) a b σ
set_option maxHeartbeats 4000000 in
set_option maxRecDepth 100000 in
theorem lc_turn {p : Program} {l : Launch} {e : Env} {s : State} {m : MethodId} {b L : Nat} {xs : Nat → Int32} {below : List Frame} {meth : Method} {c : Code} {X : wX} {ay : Nat → Nat} {A : Nat → Prop} {RR : St → St → Prop} {cells slots : Nat} {Q : State → Prop} {σ μ : St} {H : Heap} {locs : List Loc} {ls : Array Slot} {j : Nat} (hE : eV p m c code 4 s #[Value.ref b] wsL_law RL X) (hX : va_X b L xs s s.heap) (hbl : b < s.heap.size) (hbA : ¬ A b) (hL : L ≤ 2560) (hj : j + 5 ≤ L) (hcs : cells ≤ room_1.cells ∧ slots ≤ room_1.slots) (hG : gL X ay A s.heap σ μ H locs) (hl : lv_has ls 4 [(0, .ref b), (1, .ref (X.2.1 0)), (2, .ref (ay 0)), (3, .int (nI j))]) (hw : sm_turn RR σ μ) (ih : ∀ (σ μ : St) (H : Heap) (locs : List Loc) (ls : Array Slot), RR σ μ → gL X ay A s.heap σ μ H locs → lv_has ls 4 [(0, .ref b), (1, .ref (X.2.1 0)), (2, .ref (ay 0)), (3, .int (nI (j + 5)))] → W p l e room_1 s m #[Value.ref b] below meth c H locs cells slots Q (F0 m 18 ls [])) : W p l e room_1 s m #[Value.ref b] below meth c H locs cells slots Q (F0 m 217 ls []) := by
  have hx := hE.1.1
  have hb := hE.1.2.1
  have hw := hw (xs (j + 1)) (xs (j + 2))
  refine lv_aload_n hx hb dL_law_217 rfl (lv_at hl 1 rfl) ?_
  refine lv_aload_n hx hb dL_law_218 rfl (lv_at hl 0 rfl) ?_
  refine lv_iload_n hx hb dL_law_219 rfl (lv_at hl 3 rfl) ?_
  refine lv_iconst (v := 1) hx hb dL_law_220 (by decide) ?_
  refine lv_iadd hx hb dL_law_221 ?_
  refine l_sld (k := j + 1) hx hb hX hbl hbA hG (nI_add j 1) (by omega) hL dL_law_222 ?_
  refine lv_aload_n hx hb dL_law_223 rfl (lv_at hl 0 rfl) ?_
  refine lv_iload_n hx hb dL_law_224 rfl (lv_at hl 3 rfl) ?_
  refine lv_iconst (v := 2) hx hb dL_law_225 (by decide) ?_
  refine lv_iadd hx hb dL_law_226 ?_
  refine l_sld (k := j + 2) hx hb hX hbl hbA hG (nI_add j 2) (by omega) hL dL_law_227 ?_
  refine l_callC hG (g_runV (o := 0) (rm := rm_X9_turn) (As := [.int (xs (j + 1)), .int (xs (j + 2))]) (rest := []) (n := 2) (X := X) (own := RL) hE hG.c (m_X9_turn l X hw _) gL_law_X9_turn rfl rfl rfl (by decide +kernel) ⟨Nat.le_of_ble_eq_true rfl, Nat.le_of_ble_eq_true rfl⟩ (kd_lt kc0 (by decide)) (ce_9 kc0) rfl rfl rfl hl.1 (Nat.le_of_ble_eq_true rfl) dL_law_228 hcs) (fun r σ H locs hw hG => ?_)
  refine lv_aload_n hx hb dL_law_231 rfl (lv_at hl 2 rfl) ?_
  refine lv_aload_n hx hb dL_law_232 rfl (lv_at hl 0 rfl) ?_
  refine lv_iload_n hx hb dL_law_233 rfl (lv_at hl 3 rfl) ?_
  refine lv_iconst (v := 1) hx hb dL_law_234 (by decide) ?_
  refine lv_iadd hx hb dL_law_235 ?_
  refine l_sld (k := j + 1) hx hb hX hbl hbA hG (nI_add j 1) (by omega) hL dL_law_236 ?_
  refine lv_aload_n hx hb dL_law_237 rfl (lv_at hl 0 rfl) ?_
  refine lv_iload_n hx hb dL_law_238 rfl (lv_at hl 3 rfl) ?_
  refine lv_iconst (v := 2) hx hb dL_law_239 (by decide) ?_
  refine lv_iadd hx hb dL_law_240 ?_
  refine l_sld (k := j + 2) hx hb hX hbl hbA hG (nI_add j 2) (by omega) hL dL_law_241 ?_
  refine l_callM hG (g_runV (o := 0) (rm := rm_X10_turn) (As := [.int (xs (j + 1)), .int (xs (j + 2))]) (rest := [.int r]) (n := 2) (X := (X.1, ay, X.2.2)) (own := RL) hE hG.m (m_X10_turn l (X.1, ay, X.2.2) hw _) gL_law_X10_turn rfl rfl rfl (by decide +kernel) ⟨Nat.le_of_ble_eq_true rfl, Nat.le_of_ble_eq_true rfl⟩ (kd_lt km0 (by decide)) (ce_10 km0) rfl rfl rfl hl.1 (Nat.le_of_ble_eq_true rfl) dL_law_242 hcs) (fun r2 μ H locs hw hG => ?_)
  refine lv_icmp_eq (tgt := 1077) hx hb dL_law_245 (by decide) (fun _ => ?_) (fun h => absurd hw.1 h)
  refine lv_iinc (v := nI (j + 5)) (lv' := [(3, .int (nI (j + 5))), (0, .ref b), (1, .ref (X.2.1 0)), (2, .ref (ay 0))]) hx hb dL_law_1077 hl (k := 3) rfl (nI_add j 5) (by decide) rfl (fun ls hl => ?_)
  refine lv_goto (tgt := 18) hx hb dL_law_1080 (by decide) ?_
  exact ih σ μ H locs ls hw.2 hG (lv_sub hl [1, 2, 3, 0] rfl)
def sm_copy (RR : St → St → Prop) (σ μ : St) : Prop := ∀ a b : Int32, wp_X9_copy (fun r σ => wp_X10_copy (fun r2 μ => r = r2 ∧ RR σ μ) a b μ) a b σ
set_option maxHeartbeats 4000000 in
set_option maxRecDepth 100000 in
theorem lc_copy {p : Program} {l : Launch} {e : Env} {s : State} {m : MethodId} {b L : Nat} {xs : Nat → Int32} {below : List Frame} {meth : Method} {c : Code} {X : wX} {ay : Nat → Nat} {A : Nat → Prop} {RR : St → St → Prop} {cells slots : Nat} {Q : State → Prop} {σ μ : St} {H : Heap} {locs : List Loc} {ls : Array Slot} {j : Nat} (hE : eV p m c code 4 s #[Value.ref b] wsL_law RL X) (hX : va_X b L xs s s.heap) (hbl : b < s.heap.size) (hbA : ¬ A b) (hL : L ≤ 2560) (hj : j + 5 ≤ L) (hcs : cells ≤ room_1.cells ∧ slots ≤ room_1.slots) (hG : gL X ay A s.heap σ μ H locs) (hl : lv_has ls 4 [(0, .ref b), (1, .ref (X.2.1 0)), (2, .ref (ay 0)), (3, .int (nI j))]) (hw : sm_copy RR σ μ) (ih : ∀ (σ μ : St) (H : Heap) (locs : List Loc) (ls : Array Slot), RR σ μ → gL X ay A s.heap σ μ H locs → lv_has ls 4 [(0, .ref b), (1, .ref (X.2.1 0)), (2, .ref (ay 0)), (3, .int (nI (j + 5)))] → W p l e room_1 s m #[Value.ref b] below meth c H locs cells slots Q (F0 m 18 ls [])) : W p l e room_1 s m #[Value.ref b] below meth c H locs cells slots Q (F0 m 250 ls []) := by
  have hx := hE.1.1
  have hb := hE.1.2.1
  have hw := hw (xs (j + 1)) (xs (j + 2))
  refine lv_aload_n hx hb dL_law_250 rfl (lv_at hl 1 rfl) ?_
  refine lv_aload_n hx hb dL_law_251 rfl (lv_at hl 0 rfl) ?_
  refine lv_iload_n hx hb dL_law_252 rfl (lv_at hl 3 rfl) ?_
  refine lv_iconst (v := 1) hx hb dL_law_253 (by decide) ?_
  refine lv_iadd hx hb dL_law_254 ?_
  refine l_sld (k := j + 1) hx hb hX hbl hbA hG (nI_add j 1) (by omega) hL dL_law_255 ?_
  refine lv_aload_n hx hb dL_law_256 rfl (lv_at hl 0 rfl) ?_
  refine lv_iload_n hx hb dL_law_257 rfl (lv_at hl 3 rfl) ?_
  refine lv_iconst (v := 2) hx hb dL_law_258 (by decide) ?_
  refine lv_iadd hx hb dL_law_259 ?_
  refine l_sld (k := j + 2) hx hb hX hbl hbA hG (nI_add j 2) (by omega) hL dL_law_260 ?_
  refine l_callC hG (g_runV (o := 0) (rm := rm_X9_copy) (As := [.int (xs (j + 1)), .int (xs (j + 2))]) (rest := []) (n := 2) (X := X) (own := RL) hE hG.c (m_X9_copy l X hw _) gL_law_X9_copy rfl rfl rfl (by decide +kernel) ⟨Nat.le_of_ble_eq_true rfl, Nat.le_of_ble_eq_true rfl⟩ (kd_lt kc0 (by decide)) (ce_9 kc0) rfl rfl rfl hl.1 (Nat.le_of_ble_eq_true rfl) dL_law_261 hcs) (fun r σ H locs hw hG => ?_)
  refine lv_aload_n hx hb dL_law_264 rfl (lv_at hl 2 rfl) ?_
  refine lv_aload_n hx hb dL_law_265 rfl (lv_at hl 0 rfl) ?_
  refine lv_iload_n hx hb dL_law_266 rfl (lv_at hl 3 rfl) ?_
  refine lv_iconst (v := 1) hx hb dL_law_267 (by decide) ?_
  refine lv_iadd hx hb dL_law_268 ?_
  refine l_sld (k := j + 1) hx hb hX hbl hbA hG (nI_add j 1) (by omega) hL dL_law_269 ?_
  refine lv_aload_n hx hb dL_law_270 rfl (lv_at hl 0 rfl) ?_
  refine lv_iload_n hx hb dL_law_271 rfl (lv_at hl 3 rfl) ?_
  refine lv_iconst (v := 2) hx hb dL_law_272 (by decide) ?_
  refine lv_iadd hx hb dL_law_273 ?_
  refine l_sld (k := j + 2) hx hb hX hbl hbA hG (nI_add j 2) (by omega) hL dL_law_274 ?_
  refine l_callM hG (g_runV (o := 0) (rm := rm_X10_copy) (As := [.int (xs (j + 1)), .int (xs (j + 2))]) (rest := [.int r]) (n := 2) (X := (X.1, ay, X.2.2)) (own := RL) hE hG.m (m_X10_copy l (X.1, ay, X.2.2) hw _) gL_law_X10_copy rfl rfl rfl (by decide +kernel) ⟨Nat.le_of_ble_eq_true rfl, Nat.le_of_ble_eq_true rfl⟩ (kd_lt km0 (by decide)) (ce_10 km0) rfl rfl rfl hl.1 (Nat.le_of_ble_eq_true rfl) dL_law_275 hcs) (fun r2 μ H locs hw hG => ?_)
  refine lv_icmp_eq (tgt := 1077) hx hb dL_law_278 (by decide) (fun _ => ?_) (fun h => absurd hw.1 h)
  refine lv_iinc (v := nI (j + 5)) (lv' := [(3, .int (nI (j + 5))), (0, .ref b), (1, .ref (X.2.1 0)), (2, .ref (ay 0))]) hx hb dL_law_1077 hl (k := 3) rfl (nI_add j 5) (by decide) rfl (fun ls hl => ?_)
  refine lv_goto (tgt := 18) hx hb dL_law_1080 (by decide) ?_
  exact ih σ μ H locs ls hw.2 hG (lv_sub hl [1, 2, 3, 0] rfl)
def sm_law (RR : St → St → Prop) (σ μ : St) : Prop := ∀ a b c d : Int32, wp_X9_law (fun r σ => wp_X10_law (fun r2 μ => r = r2 ∧ RR σ μ) a b c d μ) a b c d σ
set_option maxHeartbeats 4000000 in
set_option maxRecDepth 100000 in
theorem lc_law {p : Program} {l : Launch} {e : Env} {s : State} {m : MethodId} {b L : Nat} {xs : Nat → Int32} {below : List Frame} {meth : Method} {c : Code} {X : wX} {ay : Nat → Nat} {A : Nat → Prop} {RR : St → St → Prop} {cells slots : Nat} {Q : State → Prop} {σ μ : St} {H : Heap} {locs : List Loc} {ls : Array Slot} {j : Nat} (hE : eV p m c code 4 s #[Value.ref b] wsL_law RL X) (hX : va_X b L xs s s.heap) (hbl : b < s.heap.size) (hbA : ¬ A b) (hL : L ≤ 2560) (hj : j + 5 ≤ L) (hcs : cells ≤ room_1.cells ∧ slots ≤ room_1.slots) (hG : gL X ay A s.heap σ μ H locs) (hl : lv_has ls 4 [(0, .ref b), (1, .ref (X.2.1 0)), (2, .ref (ay 0)), (3, .int (nI j))]) (hw : sm_law RR σ μ) (ih : ∀ (σ μ : St) (H : Heap) (locs : List Loc) (ls : Array Slot), RR σ μ → gL X ay A s.heap σ μ H locs → lv_has ls 4 [(0, .ref b), (1, .ref (X.2.1 0)), (2, .ref (ay 0)), (3, .int (nI (j + 5)))] → W p l e room_1 s m #[Value.ref b] below meth c H locs cells slots Q (F0 m 18 ls [])) : W p l e room_1 s m #[Value.ref b] below meth c H locs cells slots Q (F0 m 283 ls []) := by
  have hx := hE.1.1
  have hb := hE.1.2.1
  have hw := hw (xs (j + 1)) (xs (j + 2)) (xs (j + 3)) (xs (j + 4))
  refine lv_aload_n hx hb dL_law_283 rfl (lv_at hl 1 rfl) ?_
  refine lv_aload_n hx hb dL_law_284 rfl (lv_at hl 0 rfl) ?_
  refine lv_iload_n hx hb dL_law_285 rfl (lv_at hl 3 rfl) ?_
  refine lv_iconst (v := 1) hx hb dL_law_286 (by decide) ?_
  refine lv_iadd hx hb dL_law_287 ?_
  refine l_sld (k := j + 1) hx hb hX hbl hbA hG (nI_add j 1) (by omega) hL dL_law_288 ?_
  refine lv_aload_n hx hb dL_law_289 rfl (lv_at hl 0 rfl) ?_
  refine lv_iload_n hx hb dL_law_290 rfl (lv_at hl 3 rfl) ?_
  refine lv_iconst (v := 2) hx hb dL_law_291 (by decide) ?_
  refine lv_iadd hx hb dL_law_292 ?_
  refine l_sld (k := j + 2) hx hb hX hbl hbA hG (nI_add j 2) (by omega) hL dL_law_293 ?_
  refine lv_aload_n hx hb dL_law_294 rfl (lv_at hl 0 rfl) ?_
  refine lv_iload_n hx hb dL_law_295 rfl (lv_at hl 3 rfl) ?_
  refine lv_iconst (v := 3) hx hb dL_law_296 (by decide) ?_
  refine lv_iadd hx hb dL_law_297 ?_
  refine l_sld (k := j + 3) hx hb hX hbl hbA hG (nI_add j 3) (by omega) hL dL_law_298 ?_
  refine lv_aload_n hx hb dL_law_299 rfl (lv_at hl 0 rfl) ?_
  refine lv_iload_n hx hb dL_law_300 rfl (lv_at hl 3 rfl) ?_
  refine lv_iconst (v := 4) hx hb dL_law_301 (by decide) ?_
  refine lv_iadd hx hb dL_law_302 ?_
  refine l_sld (k := j + 4) hx hb hX hbl hbA hG (nI_add j 4) (by omega) hL dL_law_303 ?_
  refine l_callC hG (g_runV (o := 0) (rm := rm_X9_law) (As := [.int (xs (j + 1)), .int (xs (j + 2)), .int (xs (j + 3)), .int (xs (j + 4))]) (rest := []) (n := 4) (X := X) (own := RL) hE hG.c (m_X9_law l X hw _) gL_law_X9_law rfl rfl rfl (by decide +kernel) ⟨Nat.le_of_ble_eq_true rfl, Nat.le_of_ble_eq_true rfl⟩ (kd_lt kc0 (by decide)) (ce_9 kc0) rfl rfl rfl hl.1 (Nat.le_of_ble_eq_true rfl) dL_law_304 hcs) (fun r σ H locs hw hG => ?_)
  refine lv_aload_n hx hb dL_law_307 rfl (lv_at hl 2 rfl) ?_
  refine lv_aload_n hx hb dL_law_308 rfl (lv_at hl 0 rfl) ?_
  refine lv_iload_n hx hb dL_law_309 rfl (lv_at hl 3 rfl) ?_
  refine lv_iconst (v := 1) hx hb dL_law_310 (by decide) ?_
  refine lv_iadd hx hb dL_law_311 ?_
  refine l_sld (k := j + 1) hx hb hX hbl hbA hG (nI_add j 1) (by omega) hL dL_law_312 ?_
  refine lv_aload_n hx hb dL_law_313 rfl (lv_at hl 0 rfl) ?_
  refine lv_iload_n hx hb dL_law_314 rfl (lv_at hl 3 rfl) ?_
  refine lv_iconst (v := 2) hx hb dL_law_315 (by decide) ?_
  refine lv_iadd hx hb dL_law_316 ?_
  refine l_sld (k := j + 2) hx hb hX hbl hbA hG (nI_add j 2) (by omega) hL dL_law_317 ?_
  refine lv_aload_n hx hb dL_law_318 rfl (lv_at hl 0 rfl) ?_
  refine lv_iload_n hx hb dL_law_319 rfl (lv_at hl 3 rfl) ?_
  refine lv_iconst (v := 3) hx hb dL_law_320 (by decide) ?_
  refine lv_iadd hx hb dL_law_321 ?_
  refine l_sld (k := j + 3) hx hb hX hbl hbA hG (nI_add j 3) (by omega) hL dL_law_322 ?_
  refine lv_aload_n hx hb dL_law_323 rfl (lv_at hl 0 rfl) ?_
  refine lv_iload_n hx hb dL_law_324 rfl (lv_at hl 3 rfl) ?_
  refine lv_iconst (v := 4) hx hb dL_law_325 (by decide) ?_
  refine lv_iadd hx hb dL_law_326 ?_
  refine l_sld (k := j + 4) hx hb hX hbl hbA hG (nI_add j 4) (by omega) hL dL_law_327 ?_
  refine l_callM hG (g_runV (o := 0) (rm := rm_X10_law) (As := [.int (xs (j + 1)), .int (xs (j + 2)), .int (xs (j + 3)), .int (xs (j + 4))]) (rest := [.int r]) (n := 4) (X := (X.1, ay, X.2.2)) (own := RL) hE hG.m (m_X10_law l (X.1, ay, X.2.2) hw _) gL_law_X10_law rfl rfl rfl (by decide +kernel) ⟨Nat.le_of_ble_eq_true rfl, Nat.le_of_ble_eq_true rfl⟩ (kd_lt km0 (by decide)) (ce_10 km0) rfl rfl rfl hl.1 (Nat.le_of_ble_eq_true rfl) dL_law_328 hcs) (fun r2 μ H locs hw hG => ?_)
  refine lv_icmp_eq (tgt := 1077) hx hb dL_law_331 (by decide) (fun _ => ?_) (fun h => absurd hw.1 h)
  refine lv_iinc (v := nI (j + 5)) (lv' := [(3, .int (nI (j + 5))), (0, .ref b), (1, .ref (X.2.1 0)), (2, .ref (ay 0))]) hx hb dL_law_1077 hl (k := 3) rfl (nI_add j 5) (by decide) rfl (fun ls hl => ?_)
  refine lv_goto (tgt := 18) hx hb dL_law_1080 (by decide) ?_
  exact ih σ μ H locs ls hw.2 hG (lv_sub hl [1, 2, 3, 0] rfl)
def sm_repeal (RR : St → St → Prop) (σ μ : St) : Prop := wp_X9_repeal (fun r σ => wp_X10_repeal (fun r2 μ => r = r2 ∧ RR σ μ) μ) σ
set_option maxHeartbeats 4000000 in
set_option maxRecDepth 100000 in
theorem lc_repeal {p : Program} {l : Launch} {e : Env} {s : State} {m : MethodId} {b L : Nat} {xs : Nat → Int32} {below : List Frame} {meth : Method} {c : Code} {X : wX} {ay : Nat → Nat} {A : Nat → Prop} {RR : St → St → Prop} {cells slots : Nat} {Q : State → Prop} {σ μ : St} {H : Heap} {locs : List Loc} {ls : Array Slot} {j : Nat} (hE : eV p m c code 4 s #[Value.ref b] wsL_law RL X) (hX : va_X b L xs s s.heap) (hbl : b < s.heap.size) (hbA : ¬ A b) (hL : L ≤ 2560) (hj : j + 5 ≤ L) (hcs : cells ≤ room_1.cells ∧ slots ≤ room_1.slots) (hG : gL X ay A s.heap σ μ H locs) (hl : lv_has ls 4 [(0, .ref b), (1, .ref (X.2.1 0)), (2, .ref (ay 0)), (3, .int (nI j))]) (hw : sm_repeal RR σ μ) (ih : ∀ (σ μ : St) (H : Heap) (locs : List Loc) (ls : Array Slot), RR σ μ → gL X ay A s.heap σ μ H locs → lv_has ls 4 [(0, .ref b), (1, .ref (X.2.1 0)), (2, .ref (ay 0)), (3, .int (nI (j + 5)))] → W p l e room_1 s m #[Value.ref b] below meth c H locs cells slots Q (F0 m 18 ls [])) : W p l e room_1 s m #[Value.ref b] below meth c H locs cells slots Q (F0 m 336 ls []) := by
  have hx := hE.1.1
  have hb := hE.1.2.1
  unfold sm_repeal at hw
  refine lv_aload_n hx hb dL_law_336 rfl (lv_at hl 1 rfl) ?_
  refine l_callC hG (g_runV (o := 0) (rm := rm_X9_repeal) (As := []) (rest := []) (n := 0) (X := X) (own := RL) hE hG.c (m_X9_repeal l X hw _) gL_law_X9_repeal rfl rfl rfl (by decide +kernel) ⟨Nat.le_of_ble_eq_true rfl, Nat.le_of_ble_eq_true rfl⟩ (kd_lt kc0 (by decide)) (ce_9 kc0) rfl rfl rfl hl.1 (Nat.le_of_ble_eq_true rfl) dL_law_337 hcs) (fun r σ H locs hw hG => ?_)
  refine lv_aload_n hx hb dL_law_340 rfl (lv_at hl 2 rfl) ?_
  refine l_callM hG (g_runV (o := 0) (rm := rm_X10_repeal) (As := []) (rest := [.int r]) (n := 0) (X := (X.1, ay, X.2.2)) (own := RL) hE hG.m (m_X10_repeal l (X.1, ay, X.2.2) hw _) gL_law_X10_repeal rfl rfl rfl (by decide +kernel) ⟨Nat.le_of_ble_eq_true rfl, Nat.le_of_ble_eq_true rfl⟩ (kd_lt km0 (by decide)) (ce_10 km0) rfl rfl rfl hl.1 (Nat.le_of_ble_eq_true rfl) dL_law_341 hcs) (fun r2 μ H locs hw hG => ?_)
  refine lv_icmp_eq (tgt := 1077) hx hb dL_law_344 (by decide) (fun _ => ?_) (fun h => absurd hw.1 h)
  refine lv_iinc (v := nI (j + 5)) (lv' := [(3, .int (nI (j + 5))), (0, .ref b), (1, .ref (X.2.1 0)), (2, .ref (ay 0))]) hx hb dL_law_1077 hl (k := 3) rfl (nI_add j 5) (by decide) rfl (fun ls hl => ?_)
  refine lv_goto (tgt := 18) hx hb dL_law_1080 (by decide) ?_
  exact ih σ μ H locs ls hw.2 hG (lv_sub hl [1, 2, 3, 0] rfl)
def sm_pace (RR : St → St → Prop) (σ μ : St) : Prop := ∀ a : Int32, wp_X9_pace (fun r σ => wp_X10_pace (fun r2 μ => r = r2 ∧ RR σ μ) a μ) a σ
set_option maxHeartbeats 4000000 in
set_option maxRecDepth 100000 in
theorem lc_pace {p : Program} {l : Launch} {e : Env} {s : State} {m : MethodId} {b L : Nat} {xs : Nat → Int32} {below : List Frame} {meth : Method} {c : Code} {X : wX} {ay : Nat → Nat} {A : Nat → Prop} {RR : St → St → Prop} {cells slots : Nat} {Q : State → Prop} {σ μ : St} {H : Heap} {locs : List Loc} {ls : Array Slot} {j : Nat} (hE : eV p m c code 4 s #[Value.ref b] wsL_law RL X) (hX : va_X b L xs s s.heap) (hbl : b < s.heap.size) (hbA : ¬ A b) (hL : L ≤ 2560) (hj : j + 5 ≤ L) (hcs : cells ≤ room_1.cells ∧ slots ≤ room_1.slots) (hG : gL X ay A s.heap σ μ H locs) (hl : lv_has ls 4 [(0, .ref b), (1, .ref (X.2.1 0)), (2, .ref (ay 0)), (3, .int (nI j))]) (hw : sm_pace RR σ μ) (ih : ∀ (σ μ : St) (H : Heap) (locs : List Loc) (ls : Array Slot), RR σ μ → gL X ay A s.heap σ μ H locs → lv_has ls 4 [(0, .ref b), (1, .ref (X.2.1 0)), (2, .ref (ay 0)), (3, .int (nI (j + 5)))] → W p l e room_1 s m #[Value.ref b] below meth c H locs cells slots Q (F0 m 18 ls [])) : W p l e room_1 s m #[Value.ref b] below meth c H locs cells slots Q (F0 m 349 ls []) := by
  have hx := hE.1.1
  have hb := hE.1.2.1
  have hw := hw (xs (j + 1))
  refine lv_aload_n hx hb dL_law_349 rfl (lv_at hl 1 rfl) ?_
  refine lv_aload_n hx hb dL_law_350 rfl (lv_at hl 0 rfl) ?_
  refine lv_iload_n hx hb dL_law_351 rfl (lv_at hl 3 rfl) ?_
  refine lv_iconst (v := 1) hx hb dL_law_352 (by decide) ?_
  refine lv_iadd hx hb dL_law_353 ?_
  refine l_sld (k := j + 1) hx hb hX hbl hbA hG (nI_add j 1) (by omega) hL dL_law_354 ?_
  refine l_callC hG (g_runV (o := 0) (rm := rm_X9_pace) (As := [.int (xs (j + 1))]) (rest := []) (n := 1) (X := X) (own := RL) hE hG.c (m_X9_pace l X hw _) gL_law_X9_pace rfl rfl rfl (by decide +kernel) ⟨Nat.le_of_ble_eq_true rfl, Nat.le_of_ble_eq_true rfl⟩ (kd_lt kc0 (by decide)) (ce_9 kc0) rfl rfl rfl hl.1 (Nat.le_of_ble_eq_true rfl) dL_law_355 hcs) (fun r σ H locs hw hG => ?_)
  refine lv_aload_n hx hb dL_law_358 rfl (lv_at hl 2 rfl) ?_
  refine lv_aload_n hx hb dL_law_359 rfl (lv_at hl 0 rfl) ?_
  refine lv_iload_n hx hb dL_law_360 rfl (lv_at hl 3 rfl) ?_
  refine lv_iconst (v := 1) hx hb dL_law_361 (by decide) ?_
  refine lv_iadd hx hb dL_law_362 ?_
  refine l_sld (k := j + 1) hx hb hX hbl hbA hG (nI_add j 1) (by omega) hL dL_law_363 ?_
  refine l_callM hG (g_runV (o := 0) (rm := rm_X10_pace) (As := [.int (xs (j + 1))]) (rest := [.int r]) (n := 1) (X := (X.1, ay, X.2.2)) (own := RL) hE hG.m (m_X10_pace l (X.1, ay, X.2.2) hw _) gL_law_X10_pace rfl rfl rfl (by decide +kernel) ⟨Nat.le_of_ble_eq_true rfl, Nat.le_of_ble_eq_true rfl⟩ (kd_lt km0 (by decide)) (ce_10 km0) rfl rfl rfl hl.1 (Nat.le_of_ble_eq_true rfl) dL_law_364 hcs) (fun r2 μ H locs hw hG => ?_)
  refine lv_icmp_eq (tgt := 1077) hx hb dL_law_367 (by decide) (fun _ => ?_) (fun h => absurd hw.1 h)
  refine lv_iinc (v := nI (j + 5)) (lv' := [(3, .int (nI (j + 5))), (0, .ref b), (1, .ref (X.2.1 0)), (2, .ref (ay 0))]) hx hb dL_law_1077 hl (k := 3) rfl (nI_add j 5) (by decide) rfl (fun ls hl => ?_)
  refine lv_goto (tgt := 18) hx hb dL_law_1080 (by decide) ?_
  exact ih σ μ H locs ls hw.2 hG (lv_sub hl [1, 2, 3, 0] rfl)
def sm_fastest (RR : St → St → Prop) (σ μ : St) : Prop := wp_X9_fastest (fun r σ => wp_X10_fastest (fun r2 μ => r = r2 ∧ RR σ μ) μ) σ
set_option maxHeartbeats 4000000 in
set_option maxRecDepth 100000 in
theorem lc_fastest {p : Program} {l : Launch} {e : Env} {s : State} {m : MethodId} {b L : Nat} {xs : Nat → Int32} {below : List Frame} {meth : Method} {c : Code} {X : wX} {ay : Nat → Nat} {A : Nat → Prop} {RR : St → St → Prop} {cells slots : Nat} {Q : State → Prop} {σ μ : St} {H : Heap} {locs : List Loc} {ls : Array Slot} {j : Nat} (hE : eV p m c code 4 s #[Value.ref b] wsL_law RL X) (hX : va_X b L xs s s.heap) (hbl : b < s.heap.size) (hbA : ¬ A b) (hL : L ≤ 2560) (hj : j + 5 ≤ L) (hcs : cells ≤ room_1.cells ∧ slots ≤ room_1.slots) (hG : gL X ay A s.heap σ μ H locs) (hl : lv_has ls 4 [(0, .ref b), (1, .ref (X.2.1 0)), (2, .ref (ay 0)), (3, .int (nI j))]) (hw : sm_fastest RR σ μ) (ih : ∀ (σ μ : St) (H : Heap) (locs : List Loc) (ls : Array Slot), RR σ μ → gL X ay A s.heap σ μ H locs → lv_has ls 4 [(0, .ref b), (1, .ref (X.2.1 0)), (2, .ref (ay 0)), (3, .int (nI (j + 5)))] → W p l e room_1 s m #[Value.ref b] below meth c H locs cells slots Q (F0 m 18 ls [])) : W p l e room_1 s m #[Value.ref b] below meth c H locs cells slots Q (F0 m 372 ls []) := by
  have hx := hE.1.1
  have hb := hE.1.2.1
  unfold sm_fastest at hw
  refine lv_aload_n hx hb dL_law_372 rfl (lv_at hl 1 rfl) ?_
  refine l_callC hG (g_runV (o := 0) (rm := rm_X9_fastest) (As := []) (rest := []) (n := 0) (X := X) (own := RL) hE hG.c (m_X9_fastest l X hw _) gL_law_X9_fastest rfl rfl rfl (by decide +kernel) ⟨Nat.le_of_ble_eq_true rfl, Nat.le_of_ble_eq_true rfl⟩ (kd_lt kc0 (by decide)) (ce_9 kc0) rfl rfl rfl hl.1 (Nat.le_of_ble_eq_true rfl) dL_law_373 hcs) (fun r σ H locs hw hG => ?_)
  refine lv_aload_n hx hb dL_law_376 rfl (lv_at hl 2 rfl) ?_
  refine l_callM hG (g_runV (o := 0) (rm := rm_X10_fastest) (As := []) (rest := [.int r]) (n := 0) (X := (X.1, ay, X.2.2)) (own := RL) hE hG.m (m_X10_fastest l (X.1, ay, X.2.2) hw _) gL_law_X10_fastest rfl rfl rfl (by decide +kernel) ⟨Nat.le_of_ble_eq_true rfl, Nat.le_of_ble_eq_true rfl⟩ (kd_lt km0 (by decide)) (ce_10 km0) rfl rfl rfl hl.1 (Nat.le_of_ble_eq_true rfl) dL_law_377 hcs) (fun r2 μ H locs hw hG => ?_)
  refine lv_icmp_eq (tgt := 1077) hx hb dL_law_380 (by decide) (fun _ => ?_) (fun h => absurd hw.1 h)
  refine lv_iinc (v := nI (j + 5)) (lv' := [(3, .int (nI (j + 5))), (0, .ref b), (1, .ref (X.2.1 0)), (2, .ref (ay 0))]) hx hb dL_law_1077 hl (k := 3) rfl (nI_add j 5) (by decide) rfl (fun ls hl => ?_)
  refine lv_goto (tgt := 18) hx hb dL_law_1080 (by decide) ?_
  exact ih σ μ H locs ls hw.2 hG (lv_sub hl [1, 2, 3, 0] rfl)
def sm_act (RR : St → St → Prop) (σ μ : St) : Prop := ∀ a b c d : Int32, wp_X9_act (fun r σ => wp_X10_act (fun r2 μ => r = r2 ∧ RR σ μ) a b c d μ) a b c d σ
set_option maxHeartbeats 4000000 in
set_option maxRecDepth 100000 in
theorem lc_act {p : Program} {l : Launch} {e : Env} {s : State} {m : MethodId} {b L : Nat} {xs : Nat → Int32} {below : List Frame} {meth : Method} {c : Code} {X : wX} {ay : Nat → Nat} {A : Nat → Prop} {RR : St → St → Prop} {cells slots : Nat} {Q : State → Prop} {σ μ : St} {H : Heap} {locs : List Loc} {ls : Array Slot} {j : Nat} (hE : eV p m c code 4 s #[Value.ref b] wsL_law RL X) (hX : va_X b L xs s s.heap) (hbl : b < s.heap.size) (hbA : ¬ A b) (hL : L ≤ 2560) (hj : j + 5 ≤ L) (hcs : cells ≤ room_1.cells ∧ slots ≤ room_1.slots) (hG : gL X ay A s.heap σ μ H locs) (hl : lv_has ls 4 [(0, .ref b), (1, .ref (X.2.1 0)), (2, .ref (ay 0)), (3, .int (nI j))]) (hw : sm_act RR σ μ) (ih : ∀ (σ μ : St) (H : Heap) (locs : List Loc) (ls : Array Slot), RR σ μ → gL X ay A s.heap σ μ H locs → lv_has ls 4 [(0, .ref b), (1, .ref (X.2.1 0)), (2, .ref (ay 0)), (3, .int (nI (j + 5)))] → W p l e room_1 s m #[Value.ref b] below meth c H locs cells slots Q (F0 m 18 ls [])) : W p l e room_1 s m #[Value.ref b] below meth c H locs cells slots Q (F0 m 385 ls []) := by
  have hx := hE.1.1
  have hb := hE.1.2.1
  have hw := hw (xs (j + 1)) (xs (j + 2)) (xs (j + 3)) (xs (j + 4))
  refine lv_aload_n hx hb dL_law_385 rfl (lv_at hl 1 rfl) ?_
  refine lv_aload_n hx hb dL_law_386 rfl (lv_at hl 0 rfl) ?_
  refine lv_iload_n hx hb dL_law_387 rfl (lv_at hl 3 rfl) ?_
  refine lv_iconst (v := 1) hx hb dL_law_388 (by decide) ?_
  refine lv_iadd hx hb dL_law_389 ?_
  refine l_sld (k := j + 1) hx hb hX hbl hbA hG (nI_add j 1) (by omega) hL dL_law_390 ?_
  refine lv_aload_n hx hb dL_law_391 rfl (lv_at hl 0 rfl) ?_
  refine lv_iload_n hx hb dL_law_392 rfl (lv_at hl 3 rfl) ?_
  refine lv_iconst (v := 2) hx hb dL_law_393 (by decide) ?_
  refine lv_iadd hx hb dL_law_394 ?_
  refine l_sld (k := j + 2) hx hb hX hbl hbA hG (nI_add j 2) (by omega) hL dL_law_395 ?_
  refine lv_aload_n hx hb dL_law_396 rfl (lv_at hl 0 rfl) ?_
  refine lv_iload_n hx hb dL_law_397 rfl (lv_at hl 3 rfl) ?_
  refine lv_iconst (v := 3) hx hb dL_law_398 (by decide) ?_
  refine lv_iadd hx hb dL_law_399 ?_
  refine l_sld (k := j + 3) hx hb hX hbl hbA hG (nI_add j 3) (by omega) hL dL_law_400 ?_
  refine lv_aload_n hx hb dL_law_401 rfl (lv_at hl 0 rfl) ?_
  refine lv_iload_n hx hb dL_law_402 rfl (lv_at hl 3 rfl) ?_
  refine lv_iconst (v := 4) hx hb dL_law_403 (by decide) ?_
  refine lv_iadd hx hb dL_law_404 ?_
  refine l_sld (k := j + 4) hx hb hX hbl hbA hG (nI_add j 4) (by omega) hL dL_law_405 ?_
  refine l_callC hG (g_runV (o := 0) (rm := rm_X9_act) (As := [.int (xs (j + 1)), .int (xs (j + 2)), .int (xs (j + 3)), .int (xs (j + 4))]) (rest := []) (n := 4) (X := X) (own := RL) hE hG.c (m_X9_act l X hw _) gL_law_X9_act rfl rfl rfl (by decide +kernel) ⟨Nat.le_of_ble_eq_true rfl, Nat.le_of_ble_eq_true rfl⟩ (kd_lt kc0 (by decide)) (ce_9 kc0) rfl rfl rfl hl.1 (Nat.le_of_ble_eq_true rfl) dL_law_406 hcs) (fun r σ H locs hw hG => ?_)
  refine lv_aload_n hx hb dL_law_409 rfl (lv_at hl 2 rfl) ?_
  refine lv_aload_n hx hb dL_law_410 rfl (lv_at hl 0 rfl) ?_
  refine lv_iload_n hx hb dL_law_411 rfl (lv_at hl 3 rfl) ?_
  refine lv_iconst (v := 1) hx hb dL_law_412 (by decide) ?_
  refine lv_iadd hx hb dL_law_413 ?_
  refine l_sld (k := j + 1) hx hb hX hbl hbA hG (nI_add j 1) (by omega) hL dL_law_414 ?_
  refine lv_aload_n hx hb dL_law_415 rfl (lv_at hl 0 rfl) ?_
  refine lv_iload_n hx hb dL_law_416 rfl (lv_at hl 3 rfl) ?_
  refine lv_iconst (v := 2) hx hb dL_law_417 (by decide) ?_
  refine lv_iadd hx hb dL_law_418 ?_
  refine l_sld (k := j + 2) hx hb hX hbl hbA hG (nI_add j 2) (by omega) hL dL_law_419 ?_
  refine lv_aload_n hx hb dL_law_420 rfl (lv_at hl 0 rfl) ?_
  refine lv_iload_n hx hb dL_law_421 rfl (lv_at hl 3 rfl) ?_
  refine lv_iconst (v := 3) hx hb dL_law_422 (by decide) ?_
  refine lv_iadd hx hb dL_law_423 ?_
  refine l_sld (k := j + 3) hx hb hX hbl hbA hG (nI_add j 3) (by omega) hL dL_law_424 ?_
  refine lv_aload_n hx hb dL_law_425 rfl (lv_at hl 0 rfl) ?_
  refine lv_iload_n hx hb dL_law_426 rfl (lv_at hl 3 rfl) ?_
  refine lv_iconst (v := 4) hx hb dL_law_427 (by decide) ?_
  refine lv_iadd hx hb dL_law_428 ?_
  refine l_sld (k := j + 4) hx hb hX hbl hbA hG (nI_add j 4) (by omega) hL dL_law_429 ?_
  refine l_callM hG (g_runV (o := 0) (rm := rm_X10_act) (As := [.int (xs (j + 1)), .int (xs (j + 2)), .int (xs (j + 3)), .int (xs (j + 4))]) (rest := [.int r]) (n := 4) (X := (X.1, ay, X.2.2)) (own := RL) hE hG.m (m_X10_act l (X.1, ay, X.2.2) hw _) gL_law_X10_act rfl rfl rfl (by decide +kernel) ⟨Nat.le_of_ble_eq_true rfl, Nat.le_of_ble_eq_true rfl⟩ (kd_lt km0 (by decide)) (ce_10 km0) rfl rfl rfl hl.1 (Nat.le_of_ble_eq_true rfl) dL_law_430 hcs) (fun r2 μ H locs hw hG => ?_)
  refine lv_icmp_eq (tgt := 1077) hx hb dL_law_433 (by decide) (fun _ => ?_) (fun h => absurd hw.1 h)
  refine lv_iinc (v := nI (j + 5)) (lv' := [(3, .int (nI (j + 5))), (0, .ref b), (1, .ref (X.2.1 0)), (2, .ref (ay 0))]) hx hb dL_law_1077 hl (k := 3) rfl (nI_add j 5) (by decide) rfl (fun ls hl => ?_)
  refine lv_goto (tgt := 18) hx hb dL_law_1080 (by decide) ?_
  exact ih σ μ H locs ls hw.2 hG (lv_sub hl [1, 2, 3, 0] rfl)
def sm_would (RR : St → St → Prop) (σ μ : St) : Prop := ∀ a b c d : Int32, wp_X9_would (fun r σ => wp_X10_would (fun r2 μ => r = r2 ∧ RR σ μ) a b c d μ) a b c d σ
set_option maxHeartbeats 4000000 in
set_option maxRecDepth 100000 in
theorem lc_would {p : Program} {l : Launch} {e : Env} {s : State} {m : MethodId} {b L : Nat} {xs : Nat → Int32} {below : List Frame} {meth : Method} {c : Code} {X : wX} {ay : Nat → Nat} {A : Nat → Prop} {RR : St → St → Prop} {cells slots : Nat} {Q : State → Prop} {σ μ : St} {H : Heap} {locs : List Loc} {ls : Array Slot} {j : Nat} (hE : eV p m c code 4 s #[Value.ref b] wsL_law RL X) (hX : va_X b L xs s s.heap) (hbl : b < s.heap.size) (hbA : ¬ A b) (hL : L ≤ 2560) (hj : j + 5 ≤ L) (hcs : cells ≤ room_1.cells ∧ slots ≤ room_1.slots) (hG : gL X ay A s.heap σ μ H locs) (hl : lv_has ls 4 [(0, .ref b), (1, .ref (X.2.1 0)), (2, .ref (ay 0)), (3, .int (nI j))]) (hw : sm_would RR σ μ) (ih : ∀ (σ μ : St) (H : Heap) (locs : List Loc) (ls : Array Slot), RR σ μ → gL X ay A s.heap σ μ H locs → lv_has ls 4 [(0, .ref b), (1, .ref (X.2.1 0)), (2, .ref (ay 0)), (3, .int (nI (j + 5)))] → W p l e room_1 s m #[Value.ref b] below meth c H locs cells slots Q (F0 m 18 ls [])) : W p l e room_1 s m #[Value.ref b] below meth c H locs cells slots Q (F0 m 438 ls []) := by
  have hx := hE.1.1
  have hb := hE.1.2.1
  have hw := hw (xs (j + 1)) (xs (j + 2)) (xs (j + 3)) (xs (j + 4))
  refine lv_aload_n hx hb dL_law_438 rfl (lv_at hl 1 rfl) ?_
  refine lv_aload_n hx hb dL_law_439 rfl (lv_at hl 0 rfl) ?_
  refine lv_iload_n hx hb dL_law_440 rfl (lv_at hl 3 rfl) ?_
  refine lv_iconst (v := 1) hx hb dL_law_441 (by decide) ?_
  refine lv_iadd hx hb dL_law_442 ?_
  refine l_sld (k := j + 1) hx hb hX hbl hbA hG (nI_add j 1) (by omega) hL dL_law_443 ?_
  refine lv_aload_n hx hb dL_law_444 rfl (lv_at hl 0 rfl) ?_
  refine lv_iload_n hx hb dL_law_445 rfl (lv_at hl 3 rfl) ?_
  refine lv_iconst (v := 2) hx hb dL_law_446 (by decide) ?_
  refine lv_iadd hx hb dL_law_447 ?_
  refine l_sld (k := j + 2) hx hb hX hbl hbA hG (nI_add j 2) (by omega) hL dL_law_448 ?_
  refine lv_aload_n hx hb dL_law_449 rfl (lv_at hl 0 rfl) ?_
  refine lv_iload_n hx hb dL_law_450 rfl (lv_at hl 3 rfl) ?_
  refine lv_iconst (v := 3) hx hb dL_law_451 (by decide) ?_
  refine lv_iadd hx hb dL_law_452 ?_
  refine l_sld (k := j + 3) hx hb hX hbl hbA hG (nI_add j 3) (by omega) hL dL_law_453 ?_
  refine lv_aload_n hx hb dL_law_454 rfl (lv_at hl 0 rfl) ?_
  refine lv_iload_n hx hb dL_law_455 rfl (lv_at hl 3 rfl) ?_
  refine lv_iconst (v := 4) hx hb dL_law_456 (by decide) ?_
  refine lv_iadd hx hb dL_law_457 ?_
  refine l_sld (k := j + 4) hx hb hX hbl hbA hG (nI_add j 4) (by omega) hL dL_law_458 ?_
  refine l_callC hG (g_runV (o := 0) (rm := rm_X9_would) (As := [.int (xs (j + 1)), .int (xs (j + 2)), .int (xs (j + 3)), .int (xs (j + 4))]) (rest := []) (n := 4) (X := X) (own := RL) hE hG.c (m_X9_would l X hw _) gL_law_X9_would rfl rfl rfl (by decide +kernel) ⟨Nat.le_of_ble_eq_true rfl, Nat.le_of_ble_eq_true rfl⟩ (kd_lt kc0 (by decide)) (ce_9 kc0) rfl rfl rfl hl.1 (Nat.le_of_ble_eq_true rfl) dL_law_459 hcs) (fun r σ H locs hw hG => ?_)
  refine lv_aload_n hx hb dL_law_462 rfl (lv_at hl 2 rfl) ?_
  refine lv_aload_n hx hb dL_law_463 rfl (lv_at hl 0 rfl) ?_
  refine lv_iload_n hx hb dL_law_464 rfl (lv_at hl 3 rfl) ?_
  refine lv_iconst (v := 1) hx hb dL_law_465 (by decide) ?_
  refine lv_iadd hx hb dL_law_466 ?_
  refine l_sld (k := j + 1) hx hb hX hbl hbA hG (nI_add j 1) (by omega) hL dL_law_467 ?_
  refine lv_aload_n hx hb dL_law_468 rfl (lv_at hl 0 rfl) ?_
  refine lv_iload_n hx hb dL_law_469 rfl (lv_at hl 3 rfl) ?_
  refine lv_iconst (v := 2) hx hb dL_law_470 (by decide) ?_
  refine lv_iadd hx hb dL_law_471 ?_
  refine l_sld (k := j + 2) hx hb hX hbl hbA hG (nI_add j 2) (by omega) hL dL_law_472 ?_
  refine lv_aload_n hx hb dL_law_473 rfl (lv_at hl 0 rfl) ?_
  refine lv_iload_n hx hb dL_law_474 rfl (lv_at hl 3 rfl) ?_
  refine lv_iconst (v := 3) hx hb dL_law_475 (by decide) ?_
  refine lv_iadd hx hb dL_law_476 ?_
  refine l_sld (k := j + 3) hx hb hX hbl hbA hG (nI_add j 3) (by omega) hL dL_law_477 ?_
  refine lv_aload_n hx hb dL_law_478 rfl (lv_at hl 0 rfl) ?_
  refine lv_iload_n hx hb dL_law_479 rfl (lv_at hl 3 rfl) ?_
  refine lv_iconst (v := 4) hx hb dL_law_480 (by decide) ?_
  refine lv_iadd hx hb dL_law_481 ?_
  refine l_sld (k := j + 4) hx hb hX hbl hbA hG (nI_add j 4) (by omega) hL dL_law_482 ?_
  refine l_callM hG (g_runV (o := 0) (rm := rm_X10_would) (As := [.int (xs (j + 1)), .int (xs (j + 2)), .int (xs (j + 3)), .int (xs (j + 4))]) (rest := [.int r]) (n := 4) (X := (X.1, ay, X.2.2)) (own := RL) hE hG.m (m_X10_would l (X.1, ay, X.2.2) hw _) gL_law_X10_would rfl rfl rfl (by decide +kernel) ⟨Nat.le_of_ble_eq_true rfl, Nat.le_of_ble_eq_true rfl⟩ (kd_lt km0 (by decide)) (ce_10 km0) rfl rfl rfl hl.1 (Nat.le_of_ble_eq_true rfl) dL_law_483 hcs) (fun r2 μ H locs hw hG => ?_)
  refine lv_icmp_eq (tgt := 1077) hx hb dL_law_486 (by decide) (fun _ => ?_) (fun h => absurd hw.1 h)
  refine lv_iinc (v := nI (j + 5)) (lv' := [(3, .int (nI (j + 5))), (0, .ref b), (1, .ref (X.2.1 0)), (2, .ref (ay 0))]) hx hb dL_law_1077 hl (k := 3) rfl (nI_add j 5) (by decide) rfl (fun ls hl => ?_)
  refine lv_goto (tgt := 18) hx hb dL_law_1080 (by decide) ?_
  exact ih σ μ H locs ls hw.2 hG (lv_sub hl [1, 2, 3, 0] rfl)
def sm_arm (RR : St → St → Prop) (σ μ : St) : Prop := ∀ a : Int32, wp_X9_arm (fun r σ => wp_X10_arm (fun r2 μ => r = r2 ∧ RR σ μ) a μ) a σ
set_option maxHeartbeats 4000000 in
set_option maxRecDepth 100000 in
theorem lc_arm {p : Program} {l : Launch} {e : Env} {s : State} {m : MethodId} {b L : Nat} {xs : Nat → Int32} {below : List Frame} {meth : Method} {c : Code} {X : wX} {ay : Nat → Nat} {A : Nat → Prop} {RR : St → St → Prop} {cells slots : Nat} {Q : State → Prop} {σ μ : St} {H : Heap} {locs : List Loc} {ls : Array Slot} {j : Nat} (hE : eV p m c code 4 s #[Value.ref b] wsL_law RL X) (hX : va_X b L xs s s.heap) (hbl : b < s.heap.size) (hbA : ¬ A b) (hL : L ≤ 2560) (hj : j + 5 ≤ L) (hcs : cells ≤ room_1.cells ∧ slots ≤ room_1.slots) (hG : gL X ay A s.heap σ μ H locs) (hl : lv_has ls 4 [(0, .ref b), (1, .ref (X.2.1 0)), (2, .ref (ay 0)), (3, .int (nI j))]) (hw : sm_arm RR σ μ) (ih : ∀ (σ μ : St) (H : Heap) (locs : List Loc) (ls : Array Slot), RR σ μ → gL X ay A s.heap σ μ H locs → lv_has ls 4 [(0, .ref b), (1, .ref (X.2.1 0)), (2, .ref (ay 0)), (3, .int (nI (j + 5)))] → W p l e room_1 s m #[Value.ref b] below meth c H locs cells slots Q (F0 m 18 ls [])) : W p l e room_1 s m #[Value.ref b] below meth c H locs cells slots Q (F0 m 491 ls []) := by
  have hx := hE.1.1
  have hb := hE.1.2.1
  have hw := hw (xs (j + 1))
  refine lv_aload_n hx hb dL_law_491 rfl (lv_at hl 1 rfl) ?_
  refine lv_aload_n hx hb dL_law_492 rfl (lv_at hl 0 rfl) ?_
  refine lv_iload_n hx hb dL_law_493 rfl (lv_at hl 3 rfl) ?_
  refine lv_iconst (v := 1) hx hb dL_law_494 (by decide) ?_
  refine lv_iadd hx hb dL_law_495 ?_
  refine l_sld (k := j + 1) hx hb hX hbl hbA hG (nI_add j 1) (by omega) hL dL_law_496 ?_
  refine l_callC hG (g_runV (o := 0) (rm := rm_X9_arm) (As := [.int (xs (j + 1))]) (rest := []) (n := 1) (X := X) (own := RL) hE hG.c (m_X9_arm l X hw _) gL_law_X9_arm rfl rfl rfl (by decide +kernel) ⟨Nat.le_of_ble_eq_true rfl, Nat.le_of_ble_eq_true rfl⟩ (kd_lt kc0 (by decide)) (ce_9 kc0) rfl rfl rfl hl.1 (Nat.le_of_ble_eq_true rfl) dL_law_497 hcs) (fun r σ H locs hw hG => ?_)
  refine lv_aload_n hx hb dL_law_500 rfl (lv_at hl 2 rfl) ?_
  refine lv_aload_n hx hb dL_law_501 rfl (lv_at hl 0 rfl) ?_
  refine lv_iload_n hx hb dL_law_502 rfl (lv_at hl 3 rfl) ?_
  refine lv_iconst (v := 1) hx hb dL_law_503 (by decide) ?_
  refine lv_iadd hx hb dL_law_504 ?_
  refine l_sld (k := j + 1) hx hb hX hbl hbA hG (nI_add j 1) (by omega) hL dL_law_505 ?_
  refine l_callM hG (g_runV (o := 0) (rm := rm_X10_arm) (As := [.int (xs (j + 1))]) (rest := [.int r]) (n := 1) (X := (X.1, ay, X.2.2)) (own := RL) hE hG.m (m_X10_arm l (X.1, ay, X.2.2) hw _) gL_law_X10_arm rfl rfl rfl (by decide +kernel) ⟨Nat.le_of_ble_eq_true rfl, Nat.le_of_ble_eq_true rfl⟩ (kd_lt km0 (by decide)) (ce_10 km0) rfl rfl rfl hl.1 (Nat.le_of_ble_eq_true rfl) dL_law_506 hcs) (fun r2 μ H locs hw hG => ?_)
  refine lv_icmp_eq (tgt := 1077) hx hb dL_law_509 (by decide) (fun _ => ?_) (fun h => absurd hw.1 h)
  refine lv_iinc (v := nI (j + 5)) (lv' := [(3, .int (nI (j + 5))), (0, .ref b), (1, .ref (X.2.1 0)), (2, .ref (ay 0))]) hx hb dL_law_1077 hl (k := 3) rfl (nI_add j 5) (by decide) rfl (fun ls hl => ?_)
  refine lv_goto (tgt := 18) hx hb dL_law_1080 (by decide) ?_
  exact ih σ μ H locs ls hw.2 hG (lv_sub hl [1, 2, 3, 0] rfl)
def sm_knot (RR : St → St → Prop) (σ μ : St) : Prop := ∀ a b : Int32, wp_X9_knot (fun r σ => wp_X10_knot (fun r2 μ => r = r2 ∧ RR σ μ) a b μ) a b σ
set_option maxHeartbeats 4000000 in
set_option maxRecDepth 100000 in
theorem lc_knot {p : Program} {l : Launch} {e : Env} {s : State} {m : MethodId} {b L : Nat} {xs : Nat → Int32} {below : List Frame} {meth : Method} {c : Code} {X : wX} {ay : Nat → Nat} {A : Nat → Prop} {RR : St → St → Prop} {cells slots : Nat} {Q : State → Prop} {σ μ : St} {H : Heap} {locs : List Loc} {ls : Array Slot} {j : Nat} (hE : eV p m c code 4 s #[Value.ref b] wsL_law RL X) (hX : va_X b L xs s s.heap) (hbl : b < s.heap.size) (hbA : ¬ A b) (hL : L ≤ 2560) (hj : j + 5 ≤ L) (hcs : cells ≤ room_1.cells ∧ slots ≤ room_1.slots) (hG : gL X ay A s.heap σ μ H locs) (hl : lv_has ls 4 [(0, .ref b), (1, .ref (X.2.1 0)), (2, .ref (ay 0)), (3, .int (nI j))]) (hw : sm_knot RR σ μ) (ih : ∀ (σ μ : St) (H : Heap) (locs : List Loc) (ls : Array Slot), RR σ μ → gL X ay A s.heap σ μ H locs → lv_has ls 4 [(0, .ref b), (1, .ref (X.2.1 0)), (2, .ref (ay 0)), (3, .int (nI (j + 5)))] → W p l e room_1 s m #[Value.ref b] below meth c H locs cells slots Q (F0 m 18 ls [])) : W p l e room_1 s m #[Value.ref b] below meth c H locs cells slots Q (F0 m 514 ls []) := by
  have hx := hE.1.1
  have hb := hE.1.2.1
  have hw := hw (xs (j + 1)) (xs (j + 2))
  refine lv_aload_n hx hb dL_law_514 rfl (lv_at hl 1 rfl) ?_
  refine lv_aload_n hx hb dL_law_515 rfl (lv_at hl 0 rfl) ?_
  refine lv_iload_n hx hb dL_law_516 rfl (lv_at hl 3 rfl) ?_
  refine lv_iconst (v := 1) hx hb dL_law_517 (by decide) ?_
  refine lv_iadd hx hb dL_law_518 ?_
  refine l_sld (k := j + 1) hx hb hX hbl hbA hG (nI_add j 1) (by omega) hL dL_law_519 ?_
  refine lv_aload_n hx hb dL_law_520 rfl (lv_at hl 0 rfl) ?_
  refine lv_iload_n hx hb dL_law_521 rfl (lv_at hl 3 rfl) ?_
  refine lv_iconst (v := 2) hx hb dL_law_522 (by decide) ?_
  refine lv_iadd hx hb dL_law_523 ?_
  refine l_sld (k := j + 2) hx hb hX hbl hbA hG (nI_add j 2) (by omega) hL dL_law_524 ?_
  refine l_callC hG (g_runV (o := 0) (rm := rm_X9_knot) (As := [.int (xs (j + 1)), .int (xs (j + 2))]) (rest := []) (n := 2) (X := X) (own := RL) hE hG.c (m_X9_knot l X hw _) gL_law_X9_knot rfl rfl rfl (by decide +kernel) ⟨Nat.le_of_ble_eq_true rfl, Nat.le_of_ble_eq_true rfl⟩ (kd_lt kc0 (by decide)) (ce_9 kc0) rfl rfl rfl hl.1 (Nat.le_of_ble_eq_true rfl) dL_law_525 hcs) (fun r σ H locs hw hG => ?_)
  refine lv_aload_n hx hb dL_law_528 rfl (lv_at hl 2 rfl) ?_
  refine lv_aload_n hx hb dL_law_529 rfl (lv_at hl 0 rfl) ?_
  refine lv_iload_n hx hb dL_law_530 rfl (lv_at hl 3 rfl) ?_
  refine lv_iconst (v := 1) hx hb dL_law_531 (by decide) ?_
  refine lv_iadd hx hb dL_law_532 ?_
  refine l_sld (k := j + 1) hx hb hX hbl hbA hG (nI_add j 1) (by omega) hL dL_law_533 ?_
  refine lv_aload_n hx hb dL_law_534 rfl (lv_at hl 0 rfl) ?_
  refine lv_iload_n hx hb dL_law_535 rfl (lv_at hl 3 rfl) ?_
  refine lv_iconst (v := 2) hx hb dL_law_536 (by decide) ?_
  refine lv_iadd hx hb dL_law_537 ?_
  refine l_sld (k := j + 2) hx hb hX hbl hbA hG (nI_add j 2) (by omega) hL dL_law_538 ?_
  refine l_callM hG (g_runV (o := 0) (rm := rm_X10_knot) (As := [.int (xs (j + 1)), .int (xs (j + 2))]) (rest := [.int r]) (n := 2) (X := (X.1, ay, X.2.2)) (own := RL) hE hG.m (m_X10_knot l (X.1, ay, X.2.2) hw _) gL_law_X10_knot rfl rfl rfl (by decide +kernel) ⟨Nat.le_of_ble_eq_true rfl, Nat.le_of_ble_eq_true rfl⟩ (kd_lt km0 (by decide)) (ce_10 km0) rfl rfl rfl hl.1 (Nat.le_of_ble_eq_true rfl) dL_law_539 hcs) (fun r2 μ H locs hw hG => ?_)
  refine lv_icmp_eq (tgt := 1077) hx hb dL_law_542 (by decide) (fun _ => ?_) (fun h => absurd hw.1 h)
  refine lv_iinc (v := nI (j + 5)) (lv' := [(3, .int (nI (j + 5))), (0, .ref b), (1, .ref (X.2.1 0)), (2, .ref (ay 0))]) hx hb dL_law_1077 hl (k := 3) rfl (nI_add j 5) (by decide) rfl (fun ls hl => ?_)
  refine lv_goto (tgt := 18) hx hb dL_law_1080 (by decide) ?_
  exact ih σ μ H locs ls hw.2 hG (lv_sub hl [1, 2, 3, 0] rfl)
def sm_forget (RR : St → St → Prop) (σ μ : St) : Prop := wp_X9_forget (fun r σ => wp_X10_forget (fun r2 μ => r = r2 ∧ RR σ μ) μ) σ
set_option maxHeartbeats 4000000 in
set_option maxRecDepth 100000 in
theorem lc_forget {p : Program} {l : Launch} {e : Env} {s : State} {m : MethodId} {b L : Nat} {xs : Nat → Int32} {below : List Frame} {meth : Method} {c : Code} {X : wX} {ay : Nat → Nat} {A : Nat → Prop} {RR : St → St → Prop} {cells slots : Nat} {Q : State → Prop} {σ μ : St} {H : Heap} {locs : List Loc} {ls : Array Slot} {j : Nat} (hE : eV p m c code 4 s #[Value.ref b] wsL_law RL X) (hX : va_X b L xs s s.heap) (hbl : b < s.heap.size) (hbA : ¬ A b) (hL : L ≤ 2560) (hj : j + 5 ≤ L) (hcs : cells ≤ room_1.cells ∧ slots ≤ room_1.slots) (hG : gL X ay A s.heap σ μ H locs) (hl : lv_has ls 4 [(0, .ref b), (1, .ref (X.2.1 0)), (2, .ref (ay 0)), (3, .int (nI j))]) (hw : sm_forget RR σ μ) (ih : ∀ (σ μ : St) (H : Heap) (locs : List Loc) (ls : Array Slot), RR σ μ → gL X ay A s.heap σ μ H locs → lv_has ls 4 [(0, .ref b), (1, .ref (X.2.1 0)), (2, .ref (ay 0)), (3, .int (nI (j + 5)))] → W p l e room_1 s m #[Value.ref b] below meth c H locs cells slots Q (F0 m 18 ls [])) : W p l e room_1 s m #[Value.ref b] below meth c H locs cells slots Q (F0 m 547 ls []) := by
  have hx := hE.1.1
  have hb := hE.1.2.1
  unfold sm_forget at hw
  refine lv_aload_n hx hb dL_law_547 rfl (lv_at hl 1 rfl) ?_
  refine l_callC hG (g_runV (o := 0) (rm := rm_X9_forget) (As := []) (rest := []) (n := 0) (X := X) (own := RL) hE hG.c (m_X9_forget l X hw _) gL_law_X9_forget rfl rfl rfl (by decide +kernel) ⟨Nat.le_of_ble_eq_true rfl, Nat.le_of_ble_eq_true rfl⟩ (kd_lt kc0 (by decide)) (ce_9 kc0) rfl rfl rfl hl.1 (Nat.le_of_ble_eq_true rfl) dL_law_548 hcs) (fun r σ H locs hw hG => ?_)
  refine lv_aload_n hx hb dL_law_551 rfl (lv_at hl 2 rfl) ?_
  refine l_callM hG (g_runV (o := 0) (rm := rm_X10_forget) (As := []) (rest := [.int r]) (n := 0) (X := (X.1, ay, X.2.2)) (own := RL) hE hG.m (m_X10_forget l (X.1, ay, X.2.2) hw _) gL_law_X10_forget rfl rfl rfl (by decide +kernel) ⟨Nat.le_of_ble_eq_true rfl, Nat.le_of_ble_eq_true rfl⟩ (kd_lt km0 (by decide)) (ce_10 km0) rfl rfl rfl hl.1 (Nat.le_of_ble_eq_true rfl) dL_law_552 hcs) (fun r2 μ H locs hw hG => ?_)
  refine lv_icmp_eq (tgt := 1077) hx hb dL_law_555 (by decide) (fun _ => ?_) (fun h => absurd hw.1 h)
  refine lv_iinc (v := nI (j + 5)) (lv' := [(3, .int (nI (j + 5))), (0, .ref b), (1, .ref (X.2.1 0)), (2, .ref (ay 0))]) hx hb dL_law_1077 hl (k := 3) rfl (nI_add j 5) (by decide) rfl (fun ls hl => ?_)
  refine lv_goto (tgt := 18) hx hb dL_law_1080 (by decide) ?_
  exact ih σ μ H locs ls hw.2 hG (lv_sub hl [1, 2, 3, 0] rfl)
def sm_place (RR : St → St → Prop) (σ μ : St) : Prop := ∀ a b c : Int32, wp_X9_place (fun r σ => wp_X10_place (fun r2 μ => r = r2 ∧ RR σ μ) a b c μ) a b c σ
set_option maxHeartbeats 4000000 in
set_option maxRecDepth 100000 in
theorem lc_place {p : Program} {l : Launch} {e : Env} {s : State} {m : MethodId} {b L : Nat} {xs : Nat → Int32} {below : List Frame} {meth : Method} {c : Code} {X : wX} {ay : Nat → Nat} {A : Nat → Prop} {RR : St → St → Prop} {cells slots : Nat} {Q : State → Prop} {σ μ : St} {H : Heap} {locs : List Loc} {ls : Array Slot} {j : Nat} (hE : eV p m c code 4 s #[Value.ref b] wsL_law RL X) (hX : va_X b L xs s s.heap) (hbl : b < s.heap.size) (hbA : ¬ A b) (hL : L ≤ 2560) (hj : j + 5 ≤ L) (hcs : cells ≤ room_1.cells ∧ slots ≤ room_1.slots) (hG : gL X ay A s.heap σ μ H locs) (hl : lv_has ls 4 [(0, .ref b), (1, .ref (X.2.1 0)), (2, .ref (ay 0)), (3, .int (nI j))]) (hw : sm_place RR σ μ) (ih : ∀ (σ μ : St) (H : Heap) (locs : List Loc) (ls : Array Slot), RR σ μ → gL X ay A s.heap σ μ H locs → lv_has ls 4 [(0, .ref b), (1, .ref (X.2.1 0)), (2, .ref (ay 0)), (3, .int (nI (j + 5)))] → W p l e room_1 s m #[Value.ref b] below meth c H locs cells slots Q (F0 m 18 ls [])) : W p l e room_1 s m #[Value.ref b] below meth c H locs cells slots Q (F0 m 560 ls []) := by
  have hx := hE.1.1
  have hb := hE.1.2.1
  have hw := hw (xs (j + 1)) (xs (j + 2)) (xs (j + 3))
  refine lv_aload_n hx hb dL_law_560 rfl (lv_at hl 1 rfl) ?_
  refine lv_aload_n hx hb dL_law_561 rfl (lv_at hl 0 rfl) ?_
  refine lv_iload_n hx hb dL_law_562 rfl (lv_at hl 3 rfl) ?_
  refine lv_iconst (v := 1) hx hb dL_law_563 (by decide) ?_
  refine lv_iadd hx hb dL_law_564 ?_
  refine l_sld (k := j + 1) hx hb hX hbl hbA hG (nI_add j 1) (by omega) hL dL_law_565 ?_
  refine lv_aload_n hx hb dL_law_566 rfl (lv_at hl 0 rfl) ?_
  refine lv_iload_n hx hb dL_law_567 rfl (lv_at hl 3 rfl) ?_
  refine lv_iconst (v := 2) hx hb dL_law_568 (by decide) ?_
  refine lv_iadd hx hb dL_law_569 ?_
  refine l_sld (k := j + 2) hx hb hX hbl hbA hG (nI_add j 2) (by omega) hL dL_law_570 ?_
  refine lv_aload_n hx hb dL_law_571 rfl (lv_at hl 0 rfl) ?_
  refine lv_iload_n hx hb dL_law_572 rfl (lv_at hl 3 rfl) ?_
  refine lv_iconst (v := 3) hx hb dL_law_573 (by decide) ?_
  refine lv_iadd hx hb dL_law_574 ?_
  refine l_sld (k := j + 3) hx hb hX hbl hbA hG (nI_add j 3) (by omega) hL dL_law_575 ?_
  refine l_callC hG (g_runV (o := 0) (rm := rm_X9_place) (As := [.int (xs (j + 1)), .int (xs (j + 2)), .int (xs (j + 3))]) (rest := []) (n := 3) (X := X) (own := RL) hE hG.c (m_X9_place l X hw _) gL_law_X9_place rfl rfl rfl (by decide +kernel) ⟨Nat.le_of_ble_eq_true rfl, Nat.le_of_ble_eq_true rfl⟩ (kd_lt kc0 (by decide)) (ce_9 kc0) rfl rfl rfl hl.1 (Nat.le_of_ble_eq_true rfl) dL_law_576 hcs) (fun r σ H locs hw hG => ?_)
  refine lv_aload_n hx hb dL_law_579 rfl (lv_at hl 2 rfl) ?_
  refine lv_aload_n hx hb dL_law_580 rfl (lv_at hl 0 rfl) ?_
  refine lv_iload_n hx hb dL_law_581 rfl (lv_at hl 3 rfl) ?_
  refine lv_iconst (v := 1) hx hb dL_law_582 (by decide) ?_
  refine lv_iadd hx hb dL_law_583 ?_
  refine l_sld (k := j + 1) hx hb hX hbl hbA hG (nI_add j 1) (by omega) hL dL_law_584 ?_
  refine lv_aload_n hx hb dL_law_585 rfl (lv_at hl 0 rfl) ?_
  refine lv_iload_n hx hb dL_law_586 rfl (lv_at hl 3 rfl) ?_
  refine lv_iconst (v := 2) hx hb dL_law_587 (by decide) ?_
  refine lv_iadd hx hb dL_law_588 ?_
  refine l_sld (k := j + 2) hx hb hX hbl hbA hG (nI_add j 2) (by omega) hL dL_law_589 ?_
  refine lv_aload_n hx hb dL_law_590 rfl (lv_at hl 0 rfl) ?_
  refine lv_iload_n hx hb dL_law_591 rfl (lv_at hl 3 rfl) ?_
  refine lv_iconst (v := 3) hx hb dL_law_592 (by decide) ?_
  refine lv_iadd hx hb dL_law_593 ?_
  refine l_sld (k := j + 3) hx hb hX hbl hbA hG (nI_add j 3) (by omega) hL dL_law_594 ?_
  refine l_callM hG (g_runV (o := 0) (rm := rm_X10_place) (As := [.int (xs (j + 1)), .int (xs (j + 2)), .int (xs (j + 3))]) (rest := [.int r]) (n := 3) (X := (X.1, ay, X.2.2)) (own := RL) hE hG.m (m_X10_place l (X.1, ay, X.2.2) hw _) gL_law_X10_place rfl rfl rfl (by decide +kernel) ⟨Nat.le_of_ble_eq_true rfl, Nat.le_of_ble_eq_true rfl⟩ (kd_lt km0 (by decide)) (ce_10 km0) rfl rfl rfl hl.1 (Nat.le_of_ble_eq_true rfl) dL_law_595 hcs) (fun r2 μ H locs hw hG => ?_)
  refine lv_icmp_eq (tgt := 1077) hx hb dL_law_598 (by decide) (fun _ => ?_) (fun h => absurd hw.1 h)
  refine lv_iinc (v := nI (j + 5)) (lv' := [(3, .int (nI (j + 5))), (0, .ref b), (1, .ref (X.2.1 0)), (2, .ref (ay 0))]) hx hb dL_law_1077 hl (k := 3) rfl (nI_add j 5) (by decide) rfl (fun ls hl => ?_)
  refine lv_goto (tgt := 18) hx hb dL_law_1080 (by decide) ?_
  exact ih σ μ H locs ls hw.2 hG (lv_sub hl [1, 2, 3, 0] rfl)
def sm_nearest (RR : St → St → Prop) (σ μ : St) : Prop := ∀ a b : Int32, wp_X9_nearest (fun r σ => wp_X10_nearest (fun r2 μ => r = r2 ∧ RR σ μ) a b μ) a b σ
set_option maxHeartbeats 4000000 in
set_option maxRecDepth 100000 in
theorem lc_nearest {p : Program} {l : Launch} {e : Env} {s : State} {m : MethodId} {b L : Nat} {xs : Nat → Int32} {below : List Frame} {meth : Method} {c : Code} {X : wX} {ay : Nat → Nat} {A : Nat → Prop} {RR : St → St → Prop} {cells slots : Nat} {Q : State → Prop} {σ μ : St} {H : Heap} {locs : List Loc} {ls : Array Slot} {j : Nat} (hE : eV p m c code 4 s #[Value.ref b] wsL_law RL X) (hX : va_X b L xs s s.heap) (hbl : b < s.heap.size) (hbA : ¬ A b) (hL : L ≤ 2560) (hj : j + 5 ≤ L) (hcs : cells ≤ room_1.cells ∧ slots ≤ room_1.slots) (hG : gL X ay A s.heap σ μ H locs) (hl : lv_has ls 4 [(0, .ref b), (1, .ref (X.2.1 0)), (2, .ref (ay 0)), (3, .int (nI j))]) (hw : sm_nearest RR σ μ) (ih : ∀ (σ μ : St) (H : Heap) (locs : List Loc) (ls : Array Slot), RR σ μ → gL X ay A s.heap σ μ H locs → lv_has ls 4 [(0, .ref b), (1, .ref (X.2.1 0)), (2, .ref (ay 0)), (3, .int (nI (j + 5)))] → W p l e room_1 s m #[Value.ref b] below meth c H locs cells slots Q (F0 m 18 ls [])) : W p l e room_1 s m #[Value.ref b] below meth c H locs cells slots Q (F0 m 603 ls []) := by
  have hx := hE.1.1
  have hb := hE.1.2.1
  have hw := hw (xs (j + 1)) (xs (j + 2))
  refine lv_aload_n hx hb dL_law_603 rfl (lv_at hl 1 rfl) ?_
  refine lv_aload_n hx hb dL_law_604 rfl (lv_at hl 0 rfl) ?_
  refine lv_iload_n hx hb dL_law_605 rfl (lv_at hl 3 rfl) ?_
  refine lv_iconst (v := 1) hx hb dL_law_606 (by decide) ?_
  refine lv_iadd hx hb dL_law_607 ?_
  refine l_sld (k := j + 1) hx hb hX hbl hbA hG (nI_add j 1) (by omega) hL dL_law_608 ?_
  refine lv_aload_n hx hb dL_law_609 rfl (lv_at hl 0 rfl) ?_
  refine lv_iload_n hx hb dL_law_610 rfl (lv_at hl 3 rfl) ?_
  refine lv_iconst (v := 2) hx hb dL_law_611 (by decide) ?_
  refine lv_iadd hx hb dL_law_612 ?_
  refine l_sld (k := j + 2) hx hb hX hbl hbA hG (nI_add j 2) (by omega) hL dL_law_613 ?_
  refine l_callC hG (g_runV (o := 0) (rm := rm_X9_nearest) (As := [.int (xs (j + 1)), .int (xs (j + 2))]) (rest := []) (n := 2) (X := X) (own := RL) hE hG.c (m_X9_nearest l X hw _) gL_law_X9_nearest rfl rfl rfl (by decide +kernel) ⟨Nat.le_of_ble_eq_true rfl, Nat.le_of_ble_eq_true rfl⟩ (kd_lt kc0 (by decide)) (ce_9 kc0) rfl rfl rfl hl.1 (Nat.le_of_ble_eq_true rfl) dL_law_614 hcs) (fun r σ H locs hw hG => ?_)
  refine lv_aload_n hx hb dL_law_617 rfl (lv_at hl 2 rfl) ?_
  refine lv_aload_n hx hb dL_law_618 rfl (lv_at hl 0 rfl) ?_
  refine lv_iload_n hx hb dL_law_619 rfl (lv_at hl 3 rfl) ?_
  refine lv_iconst (v := 1) hx hb dL_law_620 (by decide) ?_
  refine lv_iadd hx hb dL_law_621 ?_
  refine l_sld (k := j + 1) hx hb hX hbl hbA hG (nI_add j 1) (by omega) hL dL_law_622 ?_
  refine lv_aload_n hx hb dL_law_623 rfl (lv_at hl 0 rfl) ?_
  refine lv_iload_n hx hb dL_law_624 rfl (lv_at hl 3 rfl) ?_
  refine lv_iconst (v := 2) hx hb dL_law_625 (by decide) ?_
  refine lv_iadd hx hb dL_law_626 ?_
  refine l_sld (k := j + 2) hx hb hX hbl hbA hG (nI_add j 2) (by omega) hL dL_law_627 ?_
  refine l_callM hG (g_runV (o := 0) (rm := rm_X10_nearest) (As := [.int (xs (j + 1)), .int (xs (j + 2))]) (rest := [.int r]) (n := 2) (X := (X.1, ay, X.2.2)) (own := RL) hE hG.m (m_X10_nearest l (X.1, ay, X.2.2) hw _) gL_law_X10_nearest rfl rfl rfl (by decide +kernel) ⟨Nat.le_of_ble_eq_true rfl, Nat.le_of_ble_eq_true rfl⟩ (kd_lt km0 (by decide)) (ce_10 km0) rfl rfl rfl hl.1 (Nat.le_of_ble_eq_true rfl) dL_law_628 hcs) (fun r2 μ H locs hw hG => ?_)
  refine lv_icmp_eq (tgt := 1077) hx hb dL_law_631 (by decide) (fun _ => ?_) (fun h => absurd hw.1 h)
  refine lv_iinc (v := nI (j + 5)) (lv' := [(3, .int (nI (j + 5))), (0, .ref b), (1, .ref (X.2.1 0)), (2, .ref (ay 0))]) hx hb dL_law_1077 hl (k := 3) rfl (nI_add j 5) (by decide) rfl (fun ls hl => ?_)
  refine lv_goto (tgt := 18) hx hb dL_law_1080 (by decide) ?_
  exact ih σ μ H locs ls hw.2 hG (lv_sub hl [1, 2, 3, 0] rfl)
def sm_stop (RR : St → St → Prop) (σ μ : St) : Prop := ∀ a : Int32, wp_X9_stop (fun r σ => wp_X10_stop (fun r2 μ => r = r2 ∧ RR σ μ) a μ) a σ
set_option maxHeartbeats 4000000 in
set_option maxRecDepth 100000 in
theorem lc_stop {p : Program} {l : Launch} {e : Env} {s : State} {m : MethodId} {b L : Nat} {xs : Nat → Int32} {below : List Frame} {meth : Method} {c : Code} {X : wX} {ay : Nat → Nat} {A : Nat → Prop} {RR : St → St → Prop} {cells slots : Nat} {Q : State → Prop} {σ μ : St} {H : Heap} {locs : List Loc} {ls : Array Slot} {j : Nat} (hE : eV p m c code 4 s #[Value.ref b] wsL_law RL X) (hX : va_X b L xs s s.heap) (hbl : b < s.heap.size) (hbA : ¬ A b) (hL : L ≤ 2560) (hj : j + 5 ≤ L) (hcs : cells ≤ room_1.cells ∧ slots ≤ room_1.slots) (hG : gL X ay A s.heap σ μ H locs) (hl : lv_has ls 4 [(0, .ref b), (1, .ref (X.2.1 0)), (2, .ref (ay 0)), (3, .int (nI j))]) (hw : sm_stop RR σ μ) (ih : ∀ (σ μ : St) (H : Heap) (locs : List Loc) (ls : Array Slot), RR σ μ → gL X ay A s.heap σ μ H locs → lv_has ls 4 [(0, .ref b), (1, .ref (X.2.1 0)), (2, .ref (ay 0)), (3, .int (nI (j + 5)))] → W p l e room_1 s m #[Value.ref b] below meth c H locs cells slots Q (F0 m 18 ls [])) : W p l e room_1 s m #[Value.ref b] below meth c H locs cells slots Q (F0 m 636 ls []) := by
  have hx := hE.1.1
  have hb := hE.1.2.1
  have hw := hw (xs (j + 1))
  refine lv_aload_n hx hb dL_law_636 rfl (lv_at hl 1 rfl) ?_
  refine lv_aload_n hx hb dL_law_637 rfl (lv_at hl 0 rfl) ?_
  refine lv_iload_n hx hb dL_law_638 rfl (lv_at hl 3 rfl) ?_
  refine lv_iconst (v := 1) hx hb dL_law_639 (by decide) ?_
  refine lv_iadd hx hb dL_law_640 ?_
  refine l_sld (k := j + 1) hx hb hX hbl hbA hG (nI_add j 1) (by omega) hL dL_law_641 ?_
  refine l_callC hG (g_runV (o := 0) (rm := rm_X9_stop) (As := [.int (xs (j + 1))]) (rest := []) (n := 1) (X := X) (own := RL) hE hG.c (m_X9_stop l X hw _) gL_law_X9_stop rfl rfl rfl (by decide +kernel) ⟨Nat.le_of_ble_eq_true rfl, Nat.le_of_ble_eq_true rfl⟩ (kd_lt kc0 (by decide)) (ce_9 kc0) rfl rfl rfl hl.1 (Nat.le_of_ble_eq_true rfl) dL_law_642 hcs) (fun r σ H locs hw hG => ?_)
  refine lv_aload_n hx hb dL_law_645 rfl (lv_at hl 2 rfl) ?_
  refine lv_aload_n hx hb dL_law_646 rfl (lv_at hl 0 rfl) ?_
  refine lv_iload_n hx hb dL_law_647 rfl (lv_at hl 3 rfl) ?_
  refine lv_iconst (v := 1) hx hb dL_law_648 (by decide) ?_
  refine lv_iadd hx hb dL_law_649 ?_
  refine l_sld (k := j + 1) hx hb hX hbl hbA hG (nI_add j 1) (by omega) hL dL_law_650 ?_
  refine l_callM hG (g_runV (o := 0) (rm := rm_X10_stop) (As := [.int (xs (j + 1))]) (rest := [.int r]) (n := 1) (X := (X.1, ay, X.2.2)) (own := RL) hE hG.m (m_X10_stop l (X.1, ay, X.2.2) hw _) gL_law_X10_stop rfl rfl rfl (by decide +kernel) ⟨Nat.le_of_ble_eq_true rfl, Nat.le_of_ble_eq_true rfl⟩ (kd_lt km0 (by decide)) (ce_10 km0) rfl rfl rfl hl.1 (Nat.le_of_ble_eq_true rfl) dL_law_651 hcs) (fun r2 μ H locs hw hG => ?_)
  refine lv_icmp_eq (tgt := 1077) hx hb dL_law_654 (by decide) (fun _ => ?_) (fun h => absurd hw.1 h)
  refine lv_iinc (v := nI (j + 5)) (lv' := [(3, .int (nI (j + 5))), (0, .ref b), (1, .ref (X.2.1 0)), (2, .ref (ay 0))]) hx hb dL_law_1077 hl (k := 3) rfl (nI_add j 5) (by decide) rfl (fun ls hl => ?_)
  refine lv_goto (tgt := 18) hx hb dL_law_1080 (by decide) ?_
  exact ih σ μ H locs ls hw.2 hG (lv_sub hl [1, 2, 3, 0] rfl)
def sm_start (RR : St → St → Prop) (σ μ : St) : Prop := ∀ a : Int32, wp_X9_start (fun r σ => wp_X10_start (fun r2 μ => r = r2 ∧ RR σ μ) a μ) a σ
set_option maxHeartbeats 4000000 in
set_option maxRecDepth 100000 in
theorem lc_start {p : Program} {l : Launch} {e : Env} {s : State} {m : MethodId} {b L : Nat} {xs : Nat → Int32} {below : List Frame} {meth : Method} {c : Code} {X : wX} {ay : Nat → Nat} {A : Nat → Prop} {RR : St → St → Prop} {cells slots : Nat} {Q : State → Prop} {σ μ : St} {H : Heap} {locs : List Loc} {ls : Array Slot} {j : Nat} (hE : eV p m c code 4 s #[Value.ref b] wsL_law RL X) (hX : va_X b L xs s s.heap) (hbl : b < s.heap.size) (hbA : ¬ A b) (hL : L ≤ 2560) (hj : j + 5 ≤ L) (hcs : cells ≤ room_1.cells ∧ slots ≤ room_1.slots) (hG : gL X ay A s.heap σ μ H locs) (hl : lv_has ls 4 [(0, .ref b), (1, .ref (X.2.1 0)), (2, .ref (ay 0)), (3, .int (nI j))]) (hw : sm_start RR σ μ) (ih : ∀ (σ μ : St) (H : Heap) (locs : List Loc) (ls : Array Slot), RR σ μ → gL X ay A s.heap σ μ H locs → lv_has ls 4 [(0, .ref b), (1, .ref (X.2.1 0)), (2, .ref (ay 0)), (3, .int (nI (j + 5)))] → W p l e room_1 s m #[Value.ref b] below meth c H locs cells slots Q (F0 m 18 ls [])) : W p l e room_1 s m #[Value.ref b] below meth c H locs cells slots Q (F0 m 659 ls []) := by
  have hx := hE.1.1
  have hb := hE.1.2.1
  have hw := hw (xs (j + 1))
  refine lv_aload_n hx hb dL_law_659 rfl (lv_at hl 1 rfl) ?_
  refine lv_aload_n hx hb dL_law_660 rfl (lv_at hl 0 rfl) ?_
  refine lv_iload_n hx hb dL_law_661 rfl (lv_at hl 3 rfl) ?_
  refine lv_iconst (v := 1) hx hb dL_law_662 (by decide) ?_
  refine lv_iadd hx hb dL_law_663 ?_
  refine l_sld (k := j + 1) hx hb hX hbl hbA hG (nI_add j 1) (by omega) hL dL_law_664 ?_
  refine l_callC hG (g_runV (o := 0) (rm := rm_X9_start) (As := [.int (xs (j + 1))]) (rest := []) (n := 1) (X := X) (own := RL) hE hG.c (m_X9_start l X hw _) gL_law_X9_start rfl rfl rfl (by decide +kernel) ⟨Nat.le_of_ble_eq_true rfl, Nat.le_of_ble_eq_true rfl⟩ (kd_lt kc0 (by decide)) (ce_9 kc0) rfl rfl rfl hl.1 (Nat.le_of_ble_eq_true rfl) dL_law_665 hcs) (fun r σ H locs hw hG => ?_)
  refine lv_aload_n hx hb dL_law_668 rfl (lv_at hl 2 rfl) ?_
  refine lv_aload_n hx hb dL_law_669 rfl (lv_at hl 0 rfl) ?_
  refine lv_iload_n hx hb dL_law_670 rfl (lv_at hl 3 rfl) ?_
  refine lv_iconst (v := 1) hx hb dL_law_671 (by decide) ?_
  refine lv_iadd hx hb dL_law_672 ?_
  refine l_sld (k := j + 1) hx hb hX hbl hbA hG (nI_add j 1) (by omega) hL dL_law_673 ?_
  refine l_callM hG (g_runV (o := 0) (rm := rm_X10_start) (As := [.int (xs (j + 1))]) (rest := [.int r]) (n := 1) (X := (X.1, ay, X.2.2)) (own := RL) hE hG.m (m_X10_start l (X.1, ay, X.2.2) hw _) gL_law_X10_start rfl rfl rfl (by decide +kernel) ⟨Nat.le_of_ble_eq_true rfl, Nat.le_of_ble_eq_true rfl⟩ (kd_lt km0 (by decide)) (ce_10 km0) rfl rfl rfl hl.1 (Nat.le_of_ble_eq_true rfl) dL_law_674 hcs) (fun r2 μ H locs hw hG => ?_)
  refine lv_icmp_eq (tgt := 1077) hx hb dL_law_677 (by decide) (fun _ => ?_) (fun h => absurd hw.1 h)
  refine lv_iinc (v := nI (j + 5)) (lv' := [(3, .int (nI (j + 5))), (0, .ref b), (1, .ref (X.2.1 0)), (2, .ref (ay 0))]) hx hb dL_law_1077 hl (k := 3) rfl (nI_add j 5) (by decide) rfl (fun ls hl => ?_)
  refine lv_goto (tgt := 18) hx hb dL_law_1080 (by decide) ?_
  exact ih σ μ H locs ls hw.2 hG (lv_sub hl [1, 2, 3, 0] rfl)
def sm_job (RR : St → St → Prop) (σ μ : St) : Prop := ∀ a b : Int32, wp_X9_job (fun r σ => wp_X10_job (fun r2 μ => r = r2 ∧ RR σ μ) a b μ) a b σ
set_option maxHeartbeats 4000000 in
set_option maxRecDepth 100000 in
theorem lc_job {p : Program} {l : Launch} {e : Env} {s : State} {m : MethodId} {b L : Nat} {xs : Nat → Int32} {below : List Frame} {meth : Method} {c : Code} {X : wX} {ay : Nat → Nat} {A : Nat → Prop} {RR : St → St → Prop} {cells slots : Nat} {Q : State → Prop} {σ μ : St} {H : Heap} {locs : List Loc} {ls : Array Slot} {j : Nat} (hE : eV p m c code 4 s #[Value.ref b] wsL_law RL X) (hX : va_X b L xs s s.heap) (hbl : b < s.heap.size) (hbA : ¬ A b) (hL : L ≤ 2560) (hj : j + 5 ≤ L) (hcs : cells ≤ room_1.cells ∧ slots ≤ room_1.slots) (hG : gL X ay A s.heap σ μ H locs) (hl : lv_has ls 4 [(0, .ref b), (1, .ref (X.2.1 0)), (2, .ref (ay 0)), (3, .int (nI j))]) (hw : sm_job RR σ μ) (ih : ∀ (σ μ : St) (H : Heap) (locs : List Loc) (ls : Array Slot), RR σ μ → gL X ay A s.heap σ μ H locs → lv_has ls 4 [(0, .ref b), (1, .ref (X.2.1 0)), (2, .ref (ay 0)), (3, .int (nI (j + 5)))] → W p l e room_1 s m #[Value.ref b] below meth c H locs cells slots Q (F0 m 18 ls [])) : W p l e room_1 s m #[Value.ref b] below meth c H locs cells slots Q (F0 m 682 ls []) := by
  have hx := hE.1.1
  have hb := hE.1.2.1
  have hw := hw (xs (j + 1)) (xs (j + 2))
  refine lv_aload_n hx hb dL_law_682 rfl (lv_at hl 1 rfl) ?_
  refine lv_aload_n hx hb dL_law_683 rfl (lv_at hl 0 rfl) ?_
  refine lv_iload_n hx hb dL_law_684 rfl (lv_at hl 3 rfl) ?_
  refine lv_iconst (v := 1) hx hb dL_law_685 (by decide) ?_
  refine lv_iadd hx hb dL_law_686 ?_
  refine l_sld (k := j + 1) hx hb hX hbl hbA hG (nI_add j 1) (by omega) hL dL_law_687 ?_
  refine lv_aload_n hx hb dL_law_688 rfl (lv_at hl 0 rfl) ?_
  refine lv_iload_n hx hb dL_law_689 rfl (lv_at hl 3 rfl) ?_
  refine lv_iconst (v := 2) hx hb dL_law_690 (by decide) ?_
  refine lv_iadd hx hb dL_law_691 ?_
  refine l_sld (k := j + 2) hx hb hX hbl hbA hG (nI_add j 2) (by omega) hL dL_law_692 ?_
  refine l_callC hG (g_runV (o := 0) (rm := rm_X9_job) (As := [.int (xs (j + 1)), .int (xs (j + 2))]) (rest := []) (n := 2) (X := X) (own := RL) hE hG.c (m_X9_job l X hw _) gL_law_X9_job rfl rfl rfl (by decide +kernel) ⟨Nat.le_of_ble_eq_true rfl, Nat.le_of_ble_eq_true rfl⟩ (kd_lt kc0 (by decide)) (ce_9 kc0) rfl rfl rfl hl.1 (Nat.le_of_ble_eq_true rfl) dL_law_693 hcs) (fun r σ H locs hw hG => ?_)
  refine lv_aload_n hx hb dL_law_696 rfl (lv_at hl 2 rfl) ?_
  refine lv_aload_n hx hb dL_law_697 rfl (lv_at hl 0 rfl) ?_
  refine lv_iload_n hx hb dL_law_698 rfl (lv_at hl 3 rfl) ?_
  refine lv_iconst (v := 1) hx hb dL_law_699 (by decide) ?_
  refine lv_iadd hx hb dL_law_700 ?_
  refine l_sld (k := j + 1) hx hb hX hbl hbA hG (nI_add j 1) (by omega) hL dL_law_701 ?_
  refine lv_aload_n hx hb dL_law_702 rfl (lv_at hl 0 rfl) ?_
  refine lv_iload_n hx hb dL_law_703 rfl (lv_at hl 3 rfl) ?_
  refine lv_iconst (v := 2) hx hb dL_law_704 (by decide) ?_
  refine lv_iadd hx hb dL_law_705 ?_
  refine l_sld (k := j + 2) hx hb hX hbl hbA hG (nI_add j 2) (by omega) hL dL_law_706 ?_
  refine l_callM hG (g_runV (o := 0) (rm := rm_X10_job) (As := [.int (xs (j + 1)), .int (xs (j + 2))]) (rest := [.int r]) (n := 2) (X := (X.1, ay, X.2.2)) (own := RL) hE hG.m (m_X10_job l (X.1, ay, X.2.2) hw _) gL_law_X10_job rfl rfl rfl (by decide +kernel) ⟨Nat.le_of_ble_eq_true rfl, Nat.le_of_ble_eq_true rfl⟩ (kd_lt km0 (by decide)) (ce_10 km0) rfl rfl rfl hl.1 (Nat.le_of_ble_eq_true rfl) dL_law_707 hcs) (fun r2 μ H locs hw hG => ?_)
  refine lv_icmp_eq (tgt := 1077) hx hb dL_law_710 (by decide) (fun _ => ?_) (fun h => absurd hw.1 h)
  refine lv_iinc (v := nI (j + 5)) (lv' := [(3, .int (nI (j + 5))), (0, .ref b), (1, .ref (X.2.1 0)), (2, .ref (ay 0))]) hx hb dL_law_1077 hl (k := 3) rfl (nI_add j 5) (by decide) rfl (fun ls hl => ?_)
  refine lv_goto (tgt := 18) hx hb dL_law_1080 (by decide) ?_
  exact ih σ μ H locs ls hw.2 hG (lv_sub hl [1, 2, 3, 0] rfl)
def sm_aim (RR : St → St → Prop) (σ μ : St) : Prop := ∀ a b c : Int32, wp_X9_aim (fun r σ => wp_X10_aim (fun r2 μ => r = r2 ∧ RR σ μ) a b c μ) a b c σ
set_option maxHeartbeats 4000000 in
set_option maxRecDepth 100000 in
theorem lc_aim {p : Program} {l : Launch} {e : Env} {s : State} {m : MethodId} {b L : Nat} {xs : Nat → Int32} {below : List Frame} {meth : Method} {c : Code} {X : wX} {ay : Nat → Nat} {A : Nat → Prop} {RR : St → St → Prop} {cells slots : Nat} {Q : State → Prop} {σ μ : St} {H : Heap} {locs : List Loc} {ls : Array Slot} {j : Nat} (hE : eV p m c code 4 s #[Value.ref b] wsL_law RL X) (hX : va_X b L xs s s.heap) (hbl : b < s.heap.size) (hbA : ¬ A b) (hL : L ≤ 2560) (hj : j + 5 ≤ L) (hcs : cells ≤ room_1.cells ∧ slots ≤ room_1.slots) (hG : gL X ay A s.heap σ μ H locs) (hl : lv_has ls 4 [(0, .ref b), (1, .ref (X.2.1 0)), (2, .ref (ay 0)), (3, .int (nI j))]) (hw : sm_aim RR σ μ) (ih : ∀ (σ μ : St) (H : Heap) (locs : List Loc) (ls : Array Slot), RR σ μ → gL X ay A s.heap σ μ H locs → lv_has ls 4 [(0, .ref b), (1, .ref (X.2.1 0)), (2, .ref (ay 0)), (3, .int (nI (j + 5)))] → W p l e room_1 s m #[Value.ref b] below meth c H locs cells slots Q (F0 m 18 ls [])) : W p l e room_1 s m #[Value.ref b] below meth c H locs cells slots Q (F0 m 715 ls []) := by
  have hx := hE.1.1
  have hb := hE.1.2.1
  have hw := hw (xs (j + 1)) (xs (j + 2)) (xs (j + 3))
  refine lv_aload_n hx hb dL_law_715 rfl (lv_at hl 1 rfl) ?_
  refine lv_aload_n hx hb dL_law_716 rfl (lv_at hl 0 rfl) ?_
  refine lv_iload_n hx hb dL_law_717 rfl (lv_at hl 3 rfl) ?_
  refine lv_iconst (v := 1) hx hb dL_law_718 (by decide) ?_
  refine lv_iadd hx hb dL_law_719 ?_
  refine l_sld (k := j + 1) hx hb hX hbl hbA hG (nI_add j 1) (by omega) hL dL_law_720 ?_
  refine lv_aload_n hx hb dL_law_721 rfl (lv_at hl 0 rfl) ?_
  refine lv_iload_n hx hb dL_law_722 rfl (lv_at hl 3 rfl) ?_
  refine lv_iconst (v := 2) hx hb dL_law_723 (by decide) ?_
  refine lv_iadd hx hb dL_law_724 ?_
  refine l_sld (k := j + 2) hx hb hX hbl hbA hG (nI_add j 2) (by omega) hL dL_law_725 ?_
  refine lv_aload_n hx hb dL_law_726 rfl (lv_at hl 0 rfl) ?_
  refine lv_iload_n hx hb dL_law_727 rfl (lv_at hl 3 rfl) ?_
  refine lv_iconst (v := 3) hx hb dL_law_728 (by decide) ?_
  refine lv_iadd hx hb dL_law_729 ?_
  refine l_sld (k := j + 3) hx hb hX hbl hbA hG (nI_add j 3) (by omega) hL dL_law_730 ?_
  refine l_callC hG (g_runV (o := 0) (rm := rm_X9_aim) (As := [.int (xs (j + 1)), .int (xs (j + 2)), .int (xs (j + 3))]) (rest := []) (n := 3) (X := X) (own := RL) hE hG.c (m_X9_aim l X hw _) gL_law_X9_aim rfl rfl rfl (by decide +kernel) ⟨Nat.le_of_ble_eq_true rfl, Nat.le_of_ble_eq_true rfl⟩ (kd_lt kc0 (by decide)) (ce_9 kc0) rfl rfl rfl hl.1 (Nat.le_of_ble_eq_true rfl) dL_law_731 hcs) (fun r σ H locs hw hG => ?_)
  refine lv_aload_n hx hb dL_law_734 rfl (lv_at hl 2 rfl) ?_
  refine lv_aload_n hx hb dL_law_735 rfl (lv_at hl 0 rfl) ?_
  refine lv_iload_n hx hb dL_law_736 rfl (lv_at hl 3 rfl) ?_
  refine lv_iconst (v := 1) hx hb dL_law_737 (by decide) ?_
  refine lv_iadd hx hb dL_law_738 ?_
  refine l_sld (k := j + 1) hx hb hX hbl hbA hG (nI_add j 1) (by omega) hL dL_law_739 ?_
  refine lv_aload_n hx hb dL_law_740 rfl (lv_at hl 0 rfl) ?_
  refine lv_iload_n hx hb dL_law_741 rfl (lv_at hl 3 rfl) ?_
  refine lv_iconst (v := 2) hx hb dL_law_742 (by decide) ?_
  refine lv_iadd hx hb dL_law_743 ?_
  refine l_sld (k := j + 2) hx hb hX hbl hbA hG (nI_add j 2) (by omega) hL dL_law_744 ?_
  refine lv_aload_n hx hb dL_law_745 rfl (lv_at hl 0 rfl) ?_
  refine lv_iload_n hx hb dL_law_746 rfl (lv_at hl 3 rfl) ?_
  refine lv_iconst (v := 3) hx hb dL_law_747 (by decide) ?_
  refine lv_iadd hx hb dL_law_748 ?_
  refine l_sld (k := j + 3) hx hb hX hbl hbA hG (nI_add j 3) (by omega) hL dL_law_749 ?_
  refine l_callM hG (g_runV (o := 0) (rm := rm_X10_aim) (As := [.int (xs (j + 1)), .int (xs (j + 2)), .int (xs (j + 3))]) (rest := [.int r]) (n := 3) (X := (X.1, ay, X.2.2)) (own := RL) hE hG.m (m_X10_aim l (X.1, ay, X.2.2) hw _) gL_law_X10_aim rfl rfl rfl (by decide +kernel) ⟨Nat.le_of_ble_eq_true rfl, Nat.le_of_ble_eq_true rfl⟩ (kd_lt km0 (by decide)) (ce_10 km0) rfl rfl rfl hl.1 (Nat.le_of_ble_eq_true rfl) dL_law_750 hcs) (fun r2 μ H locs hw hG => ?_)
  refine lv_icmp_eq (tgt := 1077) hx hb dL_law_753 (by decide) (fun _ => ?_) (fun h => absurd hw.1 h)
  refine lv_iinc (v := nI (j + 5)) (lv' := [(3, .int (nI (j + 5))), (0, .ref b), (1, .ref (X.2.1 0)), (2, .ref (ay 0))]) hx hb dL_law_1077 hl (k := 3) rfl (nI_add j 5) (by decide) rfl (fun ls hl => ?_)
  refine lv_goto (tgt := 18) hx hb dL_law_1080 (by decide) ?_
  exact ih σ μ H locs ls hw.2 hG (lv_sub hl [1, 2, 3, 0] rfl)
def sm_glass (RR : St → St → Prop) (σ μ : St) : Prop := ∀ a b : Int32, wp_X9_glass (fun r σ => wp_X10_glass (fun r2 μ => r = r2 ∧ RR σ μ) a b μ) a b σ
set_option maxHeartbeats 4000000 in
set_option maxRecDepth 100000 in
theorem lc_glass {p : Program} {l : Launch} {e : Env} {s : State} {m : MethodId} {b L : Nat} {xs : Nat → Int32} {below : List Frame} {meth : Method} {c : Code} {X : wX} {ay : Nat → Nat} {A : Nat → Prop} {RR : St → St → Prop} {cells slots : Nat} {Q : State → Prop} {σ μ : St} {H : Heap} {locs : List Loc} {ls : Array Slot} {j : Nat} (hE : eV p m c code 4 s #[Value.ref b] wsL_law RL X) (hX : va_X b L xs s s.heap) (hbl : b < s.heap.size) (hbA : ¬ A b) (hL : L ≤ 2560) (hj : j + 5 ≤ L) (hcs : cells ≤ room_1.cells ∧ slots ≤ room_1.slots) (hG : gL X ay A s.heap σ μ H locs) (hl : lv_has ls 4 [(0, .ref b), (1, .ref (X.2.1 0)), (2, .ref (ay 0)), (3, .int (nI j))]) (hw : sm_glass RR σ μ) (ih : ∀ (σ μ : St) (H : Heap) (locs : List Loc) (ls : Array Slot), RR σ μ → gL X ay A s.heap σ μ H locs → lv_has ls 4 [(0, .ref b), (1, .ref (X.2.1 0)), (2, .ref (ay 0)), (3, .int (nI (j + 5)))] → W p l e room_1 s m #[Value.ref b] below meth c H locs cells slots Q (F0 m 18 ls [])) : W p l e room_1 s m #[Value.ref b] below meth c H locs cells slots Q (F0 m 758 ls []) := by
  have hx := hE.1.1
  have hb := hE.1.2.1
  have hw := hw (xs (j + 1)) (xs (j + 2))
  refine lv_aload_n hx hb dL_law_758 rfl (lv_at hl 1 rfl) ?_
  refine lv_aload_n hx hb dL_law_759 rfl (lv_at hl 0 rfl) ?_
  refine lv_iload_n hx hb dL_law_760 rfl (lv_at hl 3 rfl) ?_
  refine lv_iconst (v := 1) hx hb dL_law_761 (by decide) ?_
  refine lv_iadd hx hb dL_law_762 ?_
  refine l_sld (k := j + 1) hx hb hX hbl hbA hG (nI_add j 1) (by omega) hL dL_law_763 ?_
  refine lv_aload_n hx hb dL_law_764 rfl (lv_at hl 0 rfl) ?_
  refine lv_iload_n hx hb dL_law_765 rfl (lv_at hl 3 rfl) ?_
  refine lv_iconst (v := 2) hx hb dL_law_766 (by decide) ?_
  refine lv_iadd hx hb dL_law_767 ?_
  refine l_sld (k := j + 2) hx hb hX hbl hbA hG (nI_add j 2) (by omega) hL dL_law_768 ?_
  refine l_callC hG (g_runV (o := 0) (rm := rm_X9_glass) (As := [.int (xs (j + 1)), .int (xs (j + 2))]) (rest := []) (n := 2) (X := X) (own := RL) hE hG.c (m_X9_glass l X hw _) gL_law_X9_glass rfl rfl rfl (by decide +kernel) ⟨Nat.le_of_ble_eq_true rfl, Nat.le_of_ble_eq_true rfl⟩ (kd_lt kc0 (by decide)) (ce_9 kc0) rfl rfl rfl hl.1 (Nat.le_of_ble_eq_true rfl) dL_law_769 hcs) (fun r σ H locs hw hG => ?_)
  refine lv_aload_n hx hb dL_law_772 rfl (lv_at hl 2 rfl) ?_
  refine lv_aload_n hx hb dL_law_773 rfl (lv_at hl 0 rfl) ?_
  refine lv_iload_n hx hb dL_law_774 rfl (lv_at hl 3 rfl) ?_
  refine lv_iconst (v := 1) hx hb dL_law_775 (by decide) ?_
  refine lv_iadd hx hb dL_law_776 ?_
  refine l_sld (k := j + 1) hx hb hX hbl hbA hG (nI_add j 1) (by omega) hL dL_law_777 ?_
  refine lv_aload_n hx hb dL_law_778 rfl (lv_at hl 0 rfl) ?_
  refine lv_iload_n hx hb dL_law_779 rfl (lv_at hl 3 rfl) ?_
  refine lv_iconst (v := 2) hx hb dL_law_780 (by decide) ?_
  refine lv_iadd hx hb dL_law_781 ?_
  refine l_sld (k := j + 2) hx hb hX hbl hbA hG (nI_add j 2) (by omega) hL dL_law_782 ?_
  refine l_callM hG (g_runV (o := 0) (rm := rm_X10_glass) (As := [.int (xs (j + 1)), .int (xs (j + 2))]) (rest := [.int r]) (n := 2) (X := (X.1, ay, X.2.2)) (own := RL) hE hG.m (m_X10_glass l (X.1, ay, X.2.2) hw _) gL_law_X10_glass rfl rfl rfl (by decide +kernel) ⟨Nat.le_of_ble_eq_true rfl, Nat.le_of_ble_eq_true rfl⟩ (kd_lt km0 (by decide)) (ce_10 km0) rfl rfl rfl hl.1 (Nat.le_of_ble_eq_true rfl) dL_law_783 hcs) (fun r2 μ H locs hw hG => ?_)
  refine lv_icmp_eq (tgt := 1077) hx hb dL_law_786 (by decide) (fun _ => ?_) (fun h => absurd hw.1 h)
  refine lv_iinc (v := nI (j + 5)) (lv' := [(3, .int (nI (j + 5))), (0, .ref b), (1, .ref (X.2.1 0)), (2, .ref (ay 0))]) hx hb dL_law_1077 hl (k := 3) rfl (nI_add j 5) (by decide) rfl (fun ls hl => ?_)
  refine lv_goto (tgt := 18) hx hb dL_law_1080 (by decide) ?_
  exact ih σ μ H locs ls hw.2 hG (lv_sub hl [1, 2, 3, 0] rfl)
def sm_mould (RR : St → St → Prop) (σ μ : St) : Prop := ∀ a b : Int32, wp_X9_mould (fun r σ => wp_X10_mould (fun r2 μ => r = r2 ∧ RR σ μ) a b μ) a b σ
set_option maxHeartbeats 4000000 in
set_option maxRecDepth 100000 in
theorem lc_mould {p : Program} {l : Launch} {e : Env} {s : State} {m : MethodId} {b L : Nat} {xs : Nat → Int32} {below : List Frame} {meth : Method} {c : Code} {X : wX} {ay : Nat → Nat} {A : Nat → Prop} {RR : St → St → Prop} {cells slots : Nat} {Q : State → Prop} {σ μ : St} {H : Heap} {locs : List Loc} {ls : Array Slot} {j : Nat} (hE : eV p m c code 4 s #[Value.ref b] wsL_law RL X) (hX : va_X b L xs s s.heap) (hbl : b < s.heap.size) (hbA : ¬ A b) (hL : L ≤ 2560) (hj : j + 5 ≤ L) (hcs : cells ≤ room_1.cells ∧ slots ≤ room_1.slots) (hG : gL X ay A s.heap σ μ H locs) (hl : lv_has ls 4 [(0, .ref b), (1, .ref (X.2.1 0)), (2, .ref (ay 0)), (3, .int (nI j))]) (hw : sm_mould RR σ μ) (ih : ∀ (σ μ : St) (H : Heap) (locs : List Loc) (ls : Array Slot), RR σ μ → gL X ay A s.heap σ μ H locs → lv_has ls 4 [(0, .ref b), (1, .ref (X.2.1 0)), (2, .ref (ay 0)), (3, .int (nI (j + 5)))] → W p l e room_1 s m #[Value.ref b] below meth c H locs cells slots Q (F0 m 18 ls [])) : W p l e room_1 s m #[Value.ref b] below meth c H locs cells slots Q (F0 m 791 ls []) := by
  have hx := hE.1.1
  have hb := hE.1.2.1
  have hw := hw (xs (j + 1)) (xs (j + 2))
  refine lv_aload_n hx hb dL_law_791 rfl (lv_at hl 1 rfl) ?_
  refine lv_aload_n hx hb dL_law_792 rfl (lv_at hl 0 rfl) ?_
  refine lv_iload_n hx hb dL_law_793 rfl (lv_at hl 3 rfl) ?_
  refine lv_iconst (v := 1) hx hb dL_law_794 (by decide) ?_
  refine lv_iadd hx hb dL_law_795 ?_
  refine l_sld (k := j + 1) hx hb hX hbl hbA hG (nI_add j 1) (by omega) hL dL_law_796 ?_
  refine lv_aload_n hx hb dL_law_797 rfl (lv_at hl 0 rfl) ?_
  refine lv_iload_n hx hb dL_law_798 rfl (lv_at hl 3 rfl) ?_
  refine lv_iconst (v := 2) hx hb dL_law_799 (by decide) ?_
  refine lv_iadd hx hb dL_law_800 ?_
  refine l_sld (k := j + 2) hx hb hX hbl hbA hG (nI_add j 2) (by omega) hL dL_law_801 ?_
  refine l_callC hG (g_runV (o := 0) (rm := rm_X9_mould) (As := [.int (xs (j + 1)), .int (xs (j + 2))]) (rest := []) (n := 2) (X := X) (own := RL) hE hG.c (m_X9_mould l X hw _) gL_law_X9_mould rfl rfl rfl (by decide +kernel) ⟨Nat.le_of_ble_eq_true rfl, Nat.le_of_ble_eq_true rfl⟩ (kd_lt kc0 (by decide)) (ce_9 kc0) rfl rfl rfl hl.1 (Nat.le_of_ble_eq_true rfl) dL_law_802 hcs) (fun r σ H locs hw hG => ?_)
  refine lv_aload_n hx hb dL_law_805 rfl (lv_at hl 2 rfl) ?_
  refine lv_aload_n hx hb dL_law_806 rfl (lv_at hl 0 rfl) ?_
  refine lv_iload_n hx hb dL_law_807 rfl (lv_at hl 3 rfl) ?_
  refine lv_iconst (v := 1) hx hb dL_law_808 (by decide) ?_
  refine lv_iadd hx hb dL_law_809 ?_
  refine l_sld (k := j + 1) hx hb hX hbl hbA hG (nI_add j 1) (by omega) hL dL_law_810 ?_
  refine lv_aload_n hx hb dL_law_811 rfl (lv_at hl 0 rfl) ?_
  refine lv_iload_n hx hb dL_law_812 rfl (lv_at hl 3 rfl) ?_
  refine lv_iconst (v := 2) hx hb dL_law_813 (by decide) ?_
  refine lv_iadd hx hb dL_law_814 ?_
  refine l_sld (k := j + 2) hx hb hX hbl hbA hG (nI_add j 2) (by omega) hL dL_law_815 ?_
  refine l_callM hG (g_runV (o := 0) (rm := rm_X10_mould) (As := [.int (xs (j + 1)), .int (xs (j + 2))]) (rest := [.int r]) (n := 2) (X := (X.1, ay, X.2.2)) (own := RL) hE hG.m (m_X10_mould l (X.1, ay, X.2.2) hw _) gL_law_X10_mould rfl rfl rfl (by decide +kernel) ⟨Nat.le_of_ble_eq_true rfl, Nat.le_of_ble_eq_true rfl⟩ (kd_lt km0 (by decide)) (ce_10 km0) rfl rfl rfl hl.1 (Nat.le_of_ble_eq_true rfl) dL_law_816 hcs) (fun r2 μ H locs hw hG => ?_)
  refine lv_icmp_eq (tgt := 1077) hx hb dL_law_819 (by decide) (fun _ => ?_) (fun h => absurd hw.1 h)
  refine lv_iinc (v := nI (j + 5)) (lv' := [(3, .int (nI (j + 5))), (0, .ref b), (1, .ref (X.2.1 0)), (2, .ref (ay 0))]) hx hb dL_law_1077 hl (k := 3) rfl (nI_add j 5) (by decide) rfl (fun ls hl => ?_)
  refine lv_goto (tgt := 18) hx hb dL_law_1080 (by decide) ?_
  exact ih σ μ H locs ls hw.2 hG (lv_sub hl [1, 2, 3, 0] rfl)
def sm_swab (RR : St → St → Prop) (σ μ : St) : Prop := ∀ a : Int32, wp_X9_swab (fun r σ => wp_X10_swab (fun r2 μ => r = r2 ∧ RR σ μ) a μ) a σ
set_option maxHeartbeats 4000000 in
set_option maxRecDepth 100000 in
theorem lc_swab {p : Program} {l : Launch} {e : Env} {s : State} {m : MethodId} {b L : Nat} {xs : Nat → Int32} {below : List Frame} {meth : Method} {c : Code} {X : wX} {ay : Nat → Nat} {A : Nat → Prop} {RR : St → St → Prop} {cells slots : Nat} {Q : State → Prop} {σ μ : St} {H : Heap} {locs : List Loc} {ls : Array Slot} {j : Nat} (hE : eV p m c code 4 s #[Value.ref b] wsL_law RL X) (hX : va_X b L xs s s.heap) (hbl : b < s.heap.size) (hbA : ¬ A b) (hL : L ≤ 2560) (hj : j + 5 ≤ L) (hcs : cells ≤ room_1.cells ∧ slots ≤ room_1.slots) (hG : gL X ay A s.heap σ μ H locs) (hl : lv_has ls 4 [(0, .ref b), (1, .ref (X.2.1 0)), (2, .ref (ay 0)), (3, .int (nI j))]) (hw : sm_swab RR σ μ) (ih : ∀ (σ μ : St) (H : Heap) (locs : List Loc) (ls : Array Slot), RR σ μ → gL X ay A s.heap σ μ H locs → lv_has ls 4 [(0, .ref b), (1, .ref (X.2.1 0)), (2, .ref (ay 0)), (3, .int (nI (j + 5)))] → W p l e room_1 s m #[Value.ref b] below meth c H locs cells slots Q (F0 m 18 ls [])) : W p l e room_1 s m #[Value.ref b] below meth c H locs cells slots Q (F0 m 824 ls []) := by
  have hx := hE.1.1
  have hb := hE.1.2.1
  have hw := hw (xs (j + 1))
  refine lv_aload_n hx hb dL_law_824 rfl (lv_at hl 1 rfl) ?_
  refine lv_aload_n hx hb dL_law_825 rfl (lv_at hl 0 rfl) ?_
  refine lv_iload_n hx hb dL_law_826 rfl (lv_at hl 3 rfl) ?_
  refine lv_iconst (v := 1) hx hb dL_law_827 (by decide) ?_
  refine lv_iadd hx hb dL_law_828 ?_
  refine l_sld (k := j + 1) hx hb hX hbl hbA hG (nI_add j 1) (by omega) hL dL_law_829 ?_
  refine l_callC hG (g_runV (o := 0) (rm := rm_X9_swab) (As := [.int (xs (j + 1))]) (rest := []) (n := 1) (X := X) (own := RL) hE hG.c (m_X9_swab l X hw _) gL_law_X9_swab rfl rfl rfl (by decide +kernel) ⟨Nat.le_of_ble_eq_true rfl, Nat.le_of_ble_eq_true rfl⟩ (kd_lt kc0 (by decide)) (ce_9 kc0) rfl rfl rfl hl.1 (Nat.le_of_ble_eq_true rfl) dL_law_830 hcs) (fun r σ H locs hw hG => ?_)
  refine lv_aload_n hx hb dL_law_833 rfl (lv_at hl 2 rfl) ?_
  refine lv_aload_n hx hb dL_law_834 rfl (lv_at hl 0 rfl) ?_
  refine lv_iload_n hx hb dL_law_835 rfl (lv_at hl 3 rfl) ?_
  refine lv_iconst (v := 1) hx hb dL_law_836 (by decide) ?_
  refine lv_iadd hx hb dL_law_837 ?_
  refine l_sld (k := j + 1) hx hb hX hbl hbA hG (nI_add j 1) (by omega) hL dL_law_838 ?_
  refine l_callM hG (g_runV (o := 0) (rm := rm_X10_swab) (As := [.int (xs (j + 1))]) (rest := [.int r]) (n := 1) (X := (X.1, ay, X.2.2)) (own := RL) hE hG.m (m_X10_swab l (X.1, ay, X.2.2) hw _) gL_law_X10_swab rfl rfl rfl (by decide +kernel) ⟨Nat.le_of_ble_eq_true rfl, Nat.le_of_ble_eq_true rfl⟩ (kd_lt km0 (by decide)) (ce_10 km0) rfl rfl rfl hl.1 (Nat.le_of_ble_eq_true rfl) dL_law_839 hcs) (fun r2 μ H locs hw hG => ?_)
  refine lv_icmp_eq (tgt := 1077) hx hb dL_law_842 (by decide) (fun _ => ?_) (fun h => absurd hw.1 h)
  refine lv_iinc (v := nI (j + 5)) (lv' := [(3, .int (nI (j + 5))), (0, .ref b), (1, .ref (X.2.1 0)), (2, .ref (ay 0))]) hx hb dL_law_1077 hl (k := 3) rfl (nI_add j 5) (by decide) rfl (fun ls hl => ?_)
  refine lv_goto (tgt := 18) hx hb dL_law_1080 (by decide) ?_
  exact ih σ μ H locs ls hw.2 hG (lv_sub hl [1, 2, 3, 0] rfl)
def sm_repair (RR : St → St → Prop) (σ μ : St) : Prop := ∀ a : Int32, wp_X9_repair (fun r σ => wp_X10_repair (fun r2 μ => r = r2 ∧ RR σ μ) a μ) a σ
set_option maxHeartbeats 4000000 in
set_option maxRecDepth 100000 in
theorem lc_repair {p : Program} {l : Launch} {e : Env} {s : State} {m : MethodId} {b L : Nat} {xs : Nat → Int32} {below : List Frame} {meth : Method} {c : Code} {X : wX} {ay : Nat → Nat} {A : Nat → Prop} {RR : St → St → Prop} {cells slots : Nat} {Q : State → Prop} {σ μ : St} {H : Heap} {locs : List Loc} {ls : Array Slot} {j : Nat} (hE : eV p m c code 4 s #[Value.ref b] wsL_law RL X) (hX : va_X b L xs s s.heap) (hbl : b < s.heap.size) (hbA : ¬ A b) (hL : L ≤ 2560) (hj : j + 5 ≤ L) (hcs : cells ≤ room_1.cells ∧ slots ≤ room_1.slots) (hG : gL X ay A s.heap σ μ H locs) (hl : lv_has ls 4 [(0, .ref b), (1, .ref (X.2.1 0)), (2, .ref (ay 0)), (3, .int (nI j))]) (hw : sm_repair RR σ μ) (ih : ∀ (σ μ : St) (H : Heap) (locs : List Loc) (ls : Array Slot), RR σ μ → gL X ay A s.heap σ μ H locs → lv_has ls 4 [(0, .ref b), (1, .ref (X.2.1 0)), (2, .ref (ay 0)), (3, .int (nI (j + 5)))] → W p l e room_1 s m #[Value.ref b] below meth c H locs cells slots Q (F0 m 18 ls [])) : W p l e room_1 s m #[Value.ref b] below meth c H locs cells slots Q (F0 m 847 ls []) := by
  have hx := hE.1.1
  have hb := hE.1.2.1
  have hw := hw (xs (j + 1))
  refine lv_aload_n hx hb dL_law_847 rfl (lv_at hl 1 rfl) ?_
  refine lv_aload_n hx hb dL_law_848 rfl (lv_at hl 0 rfl) ?_
  refine lv_iload_n hx hb dL_law_849 rfl (lv_at hl 3 rfl) ?_
  refine lv_iconst (v := 1) hx hb dL_law_850 (by decide) ?_
  refine lv_iadd hx hb dL_law_851 ?_
  refine l_sld (k := j + 1) hx hb hX hbl hbA hG (nI_add j 1) (by omega) hL dL_law_852 ?_
  refine l_callC hG (g_runV (o := 0) (rm := rm_X9_repair) (As := [.int (xs (j + 1))]) (rest := []) (n := 1) (X := X) (own := RL) hE hG.c (m_X9_repair l X hw _) gL_law_X9_repair rfl rfl rfl (by decide +kernel) ⟨Nat.le_of_ble_eq_true rfl, Nat.le_of_ble_eq_true rfl⟩ (kd_lt kc0 (by decide)) (ce_9 kc0) rfl rfl rfl hl.1 (Nat.le_of_ble_eq_true rfl) dL_law_853 hcs) (fun r σ H locs hw hG => ?_)
  refine lv_aload_n hx hb dL_law_856 rfl (lv_at hl 2 rfl) ?_
  refine lv_aload_n hx hb dL_law_857 rfl (lv_at hl 0 rfl) ?_
  refine lv_iload_n hx hb dL_law_858 rfl (lv_at hl 3 rfl) ?_
  refine lv_iconst (v := 1) hx hb dL_law_859 (by decide) ?_
  refine lv_iadd hx hb dL_law_860 ?_
  refine l_sld (k := j + 1) hx hb hX hbl hbA hG (nI_add j 1) (by omega) hL dL_law_861 ?_
  refine l_callM hG (g_runV (o := 0) (rm := rm_X10_repair) (As := [.int (xs (j + 1))]) (rest := [.int r]) (n := 1) (X := (X.1, ay, X.2.2)) (own := RL) hE hG.m (m_X10_repair l (X.1, ay, X.2.2) hw _) gL_law_X10_repair rfl rfl rfl (by decide +kernel) ⟨Nat.le_of_ble_eq_true rfl, Nat.le_of_ble_eq_true rfl⟩ (kd_lt km0 (by decide)) (ce_10 km0) rfl rfl rfl hl.1 (Nat.le_of_ble_eq_true rfl) dL_law_862 hcs) (fun r2 μ H locs hw hG => ?_)
  refine lv_icmp_eq (tgt := 1077) hx hb dL_law_865 (by decide) (fun _ => ?_) (fun h => absurd hw.1 h)
  refine lv_iinc (v := nI (j + 5)) (lv' := [(3, .int (nI (j + 5))), (0, .ref b), (1, .ref (X.2.1 0)), (2, .ref (ay 0))]) hx hb dL_law_1077 hl (k := 3) rfl (nI_add j 5) (by decide) rfl (fun ls hl => ?_)
  refine lv_goto (tgt := 18) hx hb dL_law_1080 (by decide) ?_
  exact ih σ μ H locs ls hw.2 hG (lv_sub hl [1, 2, 3, 0] rfl)
def sm_pull (RR : St → St → Prop) (σ μ : St) : Prop := ∀ a b : Int32, (b = 0 ∨ b = 1) → wp_X9_pull (fun r σ => wp_X10_pull (fun r2 μ => r = r2 ∧ RR σ μ) a b μ) a b σ
set_option maxHeartbeats 4000000 in
set_option maxRecDepth 100000 in
theorem lc_pull {p : Program} {l : Launch} {e : Env} {s : State} {m : MethodId} {b L : Nat} {xs : Nat → Int32} {below : List Frame} {meth : Method} {c : Code} {X : wX} {ay : Nat → Nat} {A : Nat → Prop} {RR : St → St → Prop} {cells slots : Nat} {Q : State → Prop} {σ μ : St} {H : Heap} {locs : List Loc} {ls : Array Slot} {j : Nat} (hE : eV p m c code 4 s #[Value.ref b] wsL_law RL X) (hX : va_X b L xs s s.heap) (hbl : b < s.heap.size) (hbA : ¬ A b) (hL : L ≤ 2560) (hj : j + 5 ≤ L) (hcs : cells ≤ room_1.cells ∧ slots ≤ room_1.slots) (hG : gL X ay A s.heap σ μ H locs) (hl : lv_has ls 4 [(0, .ref b), (1, .ref (X.2.1 0)), (2, .ref (ay 0)), (3, .int (nI j))]) (hw : sm_pull RR σ μ) (ih : ∀ (σ μ : St) (H : Heap) (locs : List Loc) (ls : Array Slot), RR σ μ → gL X ay A s.heap σ μ H locs → lv_has ls 4 [(0, .ref b), (1, .ref (X.2.1 0)), (2, .ref (ay 0)), (3, .int (nI (j + 5)))] → W p l e room_1 s m #[Value.ref b] below meth c H locs cells slots Q (F0 m 18 ls [])) : W p l e room_1 s m #[Value.ref b] below meth c H locs cells slots Q (F0 m 870 ls []) := by
  have hx := hE.1.1
  have hb := hE.1.2.1
  by_cases hz : (xs (j + 2)) = 0
  · have hw := hw (xs (j + 1)) 0 (Or.inl rfl)
    refine lv_aload_n hx hb dL_law_870 rfl (lv_at hl 1 rfl) ?_
    refine lv_aload_n hx hb dL_law_871 rfl (lv_at hl 0 rfl) ?_
    refine lv_iload_n hx hb dL_law_872 rfl (lv_at hl 3 rfl) ?_
    refine lv_iconst (v := 1) hx hb dL_law_873 (by decide) ?_
    refine lv_iadd hx hb dL_law_874 ?_
    refine l_sld (k := j + 1) hx hb hX hbl hbA hG (nI_add j 1) (by omega) hL dL_law_875 ?_
    refine lv_aload_n hx hb dL_law_876 rfl (lv_at hl 0 rfl) ?_
    refine lv_iload_n hx hb dL_law_877 rfl (lv_at hl 3 rfl) ?_
    refine lv_iconst (v := 2) hx hb dL_law_878 (by decide) ?_
    refine lv_iadd hx hb dL_law_879 ?_
    refine l_sld (k := j + 2) hx hb hX hbl hbA hG (nI_add j 2) (by omega) hL dL_law_880 ?_
    refine lv_if_eq (tgt := 888) hx hb dL_law_881 (by decide) (fun _ => ?_) (fun h => absurd hz h)
    refine lv_iconst (v := 0) hx hb dL_law_888 (by decide) ?_
    refine l_callC hG (g_runV (o := 0) (rm := rm_X9_pull) (As := [.int (xs (j + 1)), .int (0 : Int32)]) (rest := []) (n := 2) (X := X) (own := RL) hE hG.c (m_X9_pull l X hw _) gL_law_X9_pull rfl rfl rfl (by decide +kernel) ⟨Nat.le_of_ble_eq_true rfl, Nat.le_of_ble_eq_true rfl⟩ (kd_lt kc0 (by decide)) (ce_9 kc0) rfl rfl rfl hl.1 (Nat.le_of_ble_eq_true rfl) dL_law_889 hcs) (fun r σ H locs hw hG => ?_)
    refine lv_aload_n hx hb dL_law_892 rfl (lv_at hl 2 rfl) ?_
    refine lv_aload_n hx hb dL_law_893 rfl (lv_at hl 0 rfl) ?_
    refine lv_iload_n hx hb dL_law_894 rfl (lv_at hl 3 rfl) ?_
    refine lv_iconst (v := 1) hx hb dL_law_895 (by decide) ?_
    refine lv_iadd hx hb dL_law_896 ?_
    refine l_sld (k := j + 1) hx hb hX hbl hbA hG (nI_add j 1) (by omega) hL dL_law_897 ?_
    refine lv_aload_n hx hb dL_law_898 rfl (lv_at hl 0 rfl) ?_
    refine lv_iload_n hx hb dL_law_899 rfl (lv_at hl 3 rfl) ?_
    refine lv_iconst (v := 2) hx hb dL_law_900 (by decide) ?_
    refine lv_iadd hx hb dL_law_901 ?_
    refine l_sld (k := j + 2) hx hb hX hbl hbA hG (nI_add j 2) (by omega) hL dL_law_902 ?_
    refine lv_if_eq (tgt := 910) hx hb dL_law_903 (by decide) (fun _ => ?_) (fun h => absurd hz h)
    refine lv_iconst (v := 0) hx hb dL_law_910 (by decide) ?_
    refine l_callM hG (g_runV (o := 0) (rm := rm_X10_pull) (As := [.int (xs (j + 1)), .int (0 : Int32)]) (rest := [.int r]) (n := 2) (X := (X.1, ay, X.2.2)) (own := RL) hE hG.m (m_X10_pull l (X.1, ay, X.2.2) hw _) gL_law_X10_pull rfl rfl rfl (by decide +kernel) ⟨Nat.le_of_ble_eq_true rfl, Nat.le_of_ble_eq_true rfl⟩ (kd_lt km0 (by decide)) (ce_10 km0) rfl rfl rfl hl.1 (Nat.le_of_ble_eq_true rfl) dL_law_911 hcs) (fun r2 μ H locs hw hG => ?_)
    refine lv_icmp_eq (tgt := 1077) hx hb dL_law_914 (by decide) (fun _ => ?_) (fun h => absurd hw.1 h)
    refine lv_iinc (v := nI (j + 5)) (lv' := [(3, .int (nI (j + 5))), (0, .ref b), (1, .ref (X.2.1 0)), (2, .ref (ay 0))]) hx hb dL_law_1077 hl (k := 3) rfl (nI_add j 5) (by decide) rfl (fun ls hl => ?_)
    refine lv_goto (tgt := 18) hx hb dL_law_1080 (by decide) ?_
    exact ih σ μ H locs ls hw.2 hG (lv_sub hl [1, 2, 3, 0] rfl)
  · have hw := hw (xs (j + 1)) 1 (Or.inr rfl)
    refine lv_aload_n hx hb dL_law_870 rfl (lv_at hl 1 rfl) ?_
    refine lv_aload_n hx hb dL_law_871 rfl (lv_at hl 0 rfl) ?_
    refine lv_iload_n hx hb dL_law_872 rfl (lv_at hl 3 rfl) ?_
    refine lv_iconst (v := 1) hx hb dL_law_873 (by decide) ?_
    refine lv_iadd hx hb dL_law_874 ?_
    refine l_sld (k := j + 1) hx hb hX hbl hbA hG (nI_add j 1) (by omega) hL dL_law_875 ?_
    refine lv_aload_n hx hb dL_law_876 rfl (lv_at hl 0 rfl) ?_
    refine lv_iload_n hx hb dL_law_877 rfl (lv_at hl 3 rfl) ?_
    refine lv_iconst (v := 2) hx hb dL_law_878 (by decide) ?_
    refine lv_iadd hx hb dL_law_879 ?_
    refine l_sld (k := j + 2) hx hb hX hbl hbA hG (nI_add j 2) (by omega) hL dL_law_880 ?_
    refine lv_if_eq (tgt := 888) hx hb dL_law_881 (by decide) (fun h => absurd h hz) (fun _ => ?_)
    refine lv_iconst (v := 1) hx hb dL_law_884 (by decide) ?_
    refine lv_goto (tgt := 889) hx hb dL_law_885 (by decide) ?_
    refine l_callC hG (g_runV (o := 0) (rm := rm_X9_pull) (As := [.int (xs (j + 1)), .int (1 : Int32)]) (rest := []) (n := 2) (X := X) (own := RL) hE hG.c (m_X9_pull l X hw _) gL_law_X9_pull rfl rfl rfl (by decide +kernel) ⟨Nat.le_of_ble_eq_true rfl, Nat.le_of_ble_eq_true rfl⟩ (kd_lt kc0 (by decide)) (ce_9 kc0) rfl rfl rfl hl.1 (Nat.le_of_ble_eq_true rfl) dL_law_889 hcs) (fun r σ H locs hw hG => ?_)
    refine lv_aload_n hx hb dL_law_892 rfl (lv_at hl 2 rfl) ?_
    refine lv_aload_n hx hb dL_law_893 rfl (lv_at hl 0 rfl) ?_
    refine lv_iload_n hx hb dL_law_894 rfl (lv_at hl 3 rfl) ?_
    refine lv_iconst (v := 1) hx hb dL_law_895 (by decide) ?_
    refine lv_iadd hx hb dL_law_896 ?_
    refine l_sld (k := j + 1) hx hb hX hbl hbA hG (nI_add j 1) (by omega) hL dL_law_897 ?_
    refine lv_aload_n hx hb dL_law_898 rfl (lv_at hl 0 rfl) ?_
    refine lv_iload_n hx hb dL_law_899 rfl (lv_at hl 3 rfl) ?_
    refine lv_iconst (v := 2) hx hb dL_law_900 (by decide) ?_
    refine lv_iadd hx hb dL_law_901 ?_
    refine l_sld (k := j + 2) hx hb hX hbl hbA hG (nI_add j 2) (by omega) hL dL_law_902 ?_
    refine lv_if_eq (tgt := 910) hx hb dL_law_903 (by decide) (fun h => absurd h hz) (fun _ => ?_)
    refine lv_iconst (v := 1) hx hb dL_law_906 (by decide) ?_
    refine lv_goto (tgt := 911) hx hb dL_law_907 (by decide) ?_
    refine l_callM hG (g_runV (o := 0) (rm := rm_X10_pull) (As := [.int (xs (j + 1)), .int (1 : Int32)]) (rest := [.int r]) (n := 2) (X := (X.1, ay, X.2.2)) (own := RL) hE hG.m (m_X10_pull l (X.1, ay, X.2.2) hw _) gL_law_X10_pull rfl rfl rfl (by decide +kernel) ⟨Nat.le_of_ble_eq_true rfl, Nat.le_of_ble_eq_true rfl⟩ (kd_lt km0 (by decide)) (ce_10 km0) rfl rfl rfl hl.1 (Nat.le_of_ble_eq_true rfl) dL_law_911 hcs) (fun r2 μ H locs hw hG => ?_)
    refine lv_icmp_eq (tgt := 1077) hx hb dL_law_914 (by decide) (fun _ => ?_) (fun h => absurd hw.1 h)
    refine lv_iinc (v := nI (j + 5)) (lv' := [(3, .int (nI (j + 5))), (0, .ref b), (1, .ref (X.2.1 0)), (2, .ref (ay 0))]) hx hb dL_law_1077 hl (k := 3) rfl (nI_add j 5) (by decide) rfl (fun ls hl => ?_)
    refine lv_goto (tgt := 18) hx hb dL_law_1080 (by decide) ?_
    exact ih σ μ H locs ls hw.2 hG (lv_sub hl [1, 2, 3, 0] rfl)
def sm_rule (RR : St → St → Prop) (σ μ : St) : Prop := ∀ a b : Int32, wp_X9_rule (fun r σ => wp_X10_rule (fun r2 μ => r = r2 ∧ RR σ μ) a b μ) a b σ
set_option maxHeartbeats 4000000 in
set_option maxRecDepth 100000 in
theorem lc_rule {p : Program} {l : Launch} {e : Env} {s : State} {m : MethodId} {b L : Nat} {xs : Nat → Int32} {below : List Frame} {meth : Method} {c : Code} {X : wX} {ay : Nat → Nat} {A : Nat → Prop} {RR : St → St → Prop} {cells slots : Nat} {Q : State → Prop} {σ μ : St} {H : Heap} {locs : List Loc} {ls : Array Slot} {j : Nat} (hE : eV p m c code 4 s #[Value.ref b] wsL_law RL X) (hX : va_X b L xs s s.heap) (hbl : b < s.heap.size) (hbA : ¬ A b) (hL : L ≤ 2560) (hj : j + 5 ≤ L) (hcs : cells ≤ room_1.cells ∧ slots ≤ room_1.slots) (hG : gL X ay A s.heap σ μ H locs) (hl : lv_has ls 4 [(0, .ref b), (1, .ref (X.2.1 0)), (2, .ref (ay 0)), (3, .int (nI j))]) (hw : sm_rule RR σ μ) (ih : ∀ (σ μ : St) (H : Heap) (locs : List Loc) (ls : Array Slot), RR σ μ → gL X ay A s.heap σ μ H locs → lv_has ls 4 [(0, .ref b), (1, .ref (X.2.1 0)), (2, .ref (ay 0)), (3, .int (nI (j + 5)))] → W p l e room_1 s m #[Value.ref b] below meth c H locs cells slots Q (F0 m 18 ls [])) : W p l e room_1 s m #[Value.ref b] below meth c H locs cells slots Q (F0 m 919 ls []) := by
  have hx := hE.1.1
  have hb := hE.1.2.1
  have hw := hw (xs (j + 1)) (xs (j + 2))
  refine lv_aload_n hx hb dL_law_919 rfl (lv_at hl 1 rfl) ?_
  refine lv_aload_n hx hb dL_law_920 rfl (lv_at hl 0 rfl) ?_
  refine lv_iload_n hx hb dL_law_921 rfl (lv_at hl 3 rfl) ?_
  refine lv_iconst (v := 1) hx hb dL_law_922 (by decide) ?_
  refine lv_iadd hx hb dL_law_923 ?_
  refine l_sld (k := j + 1) hx hb hX hbl hbA hG (nI_add j 1) (by omega) hL dL_law_924 ?_
  refine lv_aload_n hx hb dL_law_925 rfl (lv_at hl 0 rfl) ?_
  refine lv_iload_n hx hb dL_law_926 rfl (lv_at hl 3 rfl) ?_
  refine lv_iconst (v := 2) hx hb dL_law_927 (by decide) ?_
  refine lv_iadd hx hb dL_law_928 ?_
  refine l_sld (k := j + 2) hx hb hX hbl hbA hG (nI_add j 2) (by omega) hL dL_law_929 ?_
  refine l_callC hG (g_runV (o := 0) (rm := rm_X9_rule) (As := [.int (xs (j + 1)), .int (xs (j + 2))]) (rest := []) (n := 2) (X := X) (own := RL) hE hG.c (m_X9_rule l X hw _) gL_law_X9_rule rfl rfl rfl (by decide +kernel) ⟨Nat.le_of_ble_eq_true rfl, Nat.le_of_ble_eq_true rfl⟩ (kd_lt kc0 (by decide)) (ce_9 kc0) rfl rfl rfl hl.1 (Nat.le_of_ble_eq_true rfl) dL_law_930 hcs) (fun r σ H locs hw hG => ?_)
  refine lv_aload_n hx hb dL_law_933 rfl (lv_at hl 2 rfl) ?_
  refine lv_aload_n hx hb dL_law_934 rfl (lv_at hl 0 rfl) ?_
  refine lv_iload_n hx hb dL_law_935 rfl (lv_at hl 3 rfl) ?_
  refine lv_iconst (v := 1) hx hb dL_law_936 (by decide) ?_
  refine lv_iadd hx hb dL_law_937 ?_
  refine l_sld (k := j + 1) hx hb hX hbl hbA hG (nI_add j 1) (by omega) hL dL_law_938 ?_
  refine lv_aload_n hx hb dL_law_939 rfl (lv_at hl 0 rfl) ?_
  refine lv_iload_n hx hb dL_law_940 rfl (lv_at hl 3 rfl) ?_
  refine lv_iconst (v := 2) hx hb dL_law_941 (by decide) ?_
  refine lv_iadd hx hb dL_law_942 ?_
  refine l_sld (k := j + 2) hx hb hX hbl hbA hG (nI_add j 2) (by omega) hL dL_law_943 ?_
  refine l_callM hG (g_runV (o := 0) (rm := rm_X10_rule) (As := [.int (xs (j + 1)), .int (xs (j + 2))]) (rest := [.int r]) (n := 2) (X := (X.1, ay, X.2.2)) (own := RL) hE hG.m (m_X10_rule l (X.1, ay, X.2.2) hw _) gL_law_X10_rule rfl rfl rfl (by decide +kernel) ⟨Nat.le_of_ble_eq_true rfl, Nat.le_of_ble_eq_true rfl⟩ (kd_lt km0 (by decide)) (ce_10 km0) rfl rfl rfl hl.1 (Nat.le_of_ble_eq_true rfl) dL_law_944 hcs) (fun r2 μ H locs hw hG => ?_)
  refine lv_icmp_eq (tgt := 1077) hx hb dL_law_947 (by decide) (fun _ => ?_) (fun h => absurd hw.1 h)
  refine lv_iinc (v := nI (j + 5)) (lv' := [(3, .int (nI (j + 5))), (0, .ref b), (1, .ref (X.2.1 0)), (2, .ref (ay 0))]) hx hb dL_law_1077 hl (k := 3) rfl (nI_add j 5) (by decide) rfl (fun ls hl => ?_)
  refine lv_goto (tgt := 18) hx hb dL_law_1080 (by decide) ?_
  exact ih σ μ H locs ls hw.2 hG (lv_sub hl [1, 2, 3, 0] rfl)
def sm_book (RR : St → St → Prop) (σ μ : St) : Prop := ∀ a b : Int32, wp_X9_book (fun r σ => wp_X10_book (fun r2 μ => r = r2 ∧ RR σ μ) a b μ) a b σ
set_option maxHeartbeats 4000000 in
set_option maxRecDepth 100000 in
theorem lc_book {p : Program} {l : Launch} {e : Env} {s : State} {m : MethodId} {b L : Nat} {xs : Nat → Int32} {below : List Frame} {meth : Method} {c : Code} {X : wX} {ay : Nat → Nat} {A : Nat → Prop} {RR : St → St → Prop} {cells slots : Nat} {Q : State → Prop} {σ μ : St} {H : Heap} {locs : List Loc} {ls : Array Slot} {j : Nat} (hE : eV p m c code 4 s #[Value.ref b] wsL_law RL X) (hX : va_X b L xs s s.heap) (hbl : b < s.heap.size) (hbA : ¬ A b) (hL : L ≤ 2560) (hj : j + 5 ≤ L) (hcs : cells ≤ room_1.cells ∧ slots ≤ room_1.slots) (hG : gL X ay A s.heap σ μ H locs) (hl : lv_has ls 4 [(0, .ref b), (1, .ref (X.2.1 0)), (2, .ref (ay 0)), (3, .int (nI j))]) (hw : sm_book RR σ μ) (ih : ∀ (σ μ : St) (H : Heap) (locs : List Loc) (ls : Array Slot), RR σ μ → gL X ay A s.heap σ μ H locs → lv_has ls 4 [(0, .ref b), (1, .ref (X.2.1 0)), (2, .ref (ay 0)), (3, .int (nI (j + 5)))] → W p l e room_1 s m #[Value.ref b] below meth c H locs cells slots Q (F0 m 18 ls [])) : W p l e room_1 s m #[Value.ref b] below meth c H locs cells slots Q (F0 m 952 ls []) := by
  have hx := hE.1.1
  have hb := hE.1.2.1
  have hw := hw (xs (j + 1)) (xs (j + 2))
  refine lv_aload_n hx hb dL_law_952 rfl (lv_at hl 1 rfl) ?_
  refine lv_aload_n hx hb dL_law_953 rfl (lv_at hl 0 rfl) ?_
  refine lv_iload_n hx hb dL_law_954 rfl (lv_at hl 3 rfl) ?_
  refine lv_iconst (v := 1) hx hb dL_law_955 (by decide) ?_
  refine lv_iadd hx hb dL_law_956 ?_
  refine l_sld (k := j + 1) hx hb hX hbl hbA hG (nI_add j 1) (by omega) hL dL_law_957 ?_
  refine lv_aload_n hx hb dL_law_958 rfl (lv_at hl 0 rfl) ?_
  refine lv_iload_n hx hb dL_law_959 rfl (lv_at hl 3 rfl) ?_
  refine lv_iconst (v := 2) hx hb dL_law_960 (by decide) ?_
  refine lv_iadd hx hb dL_law_961 ?_
  refine l_sld (k := j + 2) hx hb hX hbl hbA hG (nI_add j 2) (by omega) hL dL_law_962 ?_
  refine l_callC hG (g_runV (o := 0) (rm := rm_X9_book) (As := [.int (xs (j + 1)), .int (xs (j + 2))]) (rest := []) (n := 2) (X := X) (own := RL) hE hG.c (m_X9_book l X hw _) gL_law_X9_book rfl rfl rfl (by decide +kernel) ⟨Nat.le_of_ble_eq_true rfl, Nat.le_of_ble_eq_true rfl⟩ (kd_lt kc0 (by decide)) (ce_9 kc0) rfl rfl rfl hl.1 (Nat.le_of_ble_eq_true rfl) dL_law_963 hcs) (fun r σ H locs hw hG => ?_)
  refine lv_aload_n hx hb dL_law_966 rfl (lv_at hl 2 rfl) ?_
  refine lv_aload_n hx hb dL_law_967 rfl (lv_at hl 0 rfl) ?_
  refine lv_iload_n hx hb dL_law_968 rfl (lv_at hl 3 rfl) ?_
  refine lv_iconst (v := 1) hx hb dL_law_969 (by decide) ?_
  refine lv_iadd hx hb dL_law_970 ?_
  refine l_sld (k := j + 1) hx hb hX hbl hbA hG (nI_add j 1) (by omega) hL dL_law_971 ?_
  refine lv_aload_n hx hb dL_law_972 rfl (lv_at hl 0 rfl) ?_
  refine lv_iload_n hx hb dL_law_973 rfl (lv_at hl 3 rfl) ?_
  refine lv_iconst (v := 2) hx hb dL_law_974 (by decide) ?_
  refine lv_iadd hx hb dL_law_975 ?_
  refine l_sld (k := j + 2) hx hb hX hbl hbA hG (nI_add j 2) (by omega) hL dL_law_976 ?_
  refine l_callM hG (g_runV (o := 0) (rm := rm_X10_book) (As := [.int (xs (j + 1)), .int (xs (j + 2))]) (rest := [.int r]) (n := 2) (X := (X.1, ay, X.2.2)) (own := RL) hE hG.m (m_X10_book l (X.1, ay, X.2.2) hw _) gL_law_X10_book rfl rfl rfl (by decide +kernel) ⟨Nat.le_of_ble_eq_true rfl, Nat.le_of_ble_eq_true rfl⟩ (kd_lt km0 (by decide)) (ce_10 km0) rfl rfl rfl hl.1 (Nat.le_of_ble_eq_true rfl) dL_law_977 hcs) (fun r2 μ H locs hw hG => ?_)
  refine lv_icmp_eq (tgt := 1077) hx hb dL_law_980 (by decide) (fun _ => ?_) (fun h => absurd hw.1 h)
  refine lv_iinc (v := nI (j + 5)) (lv' := [(3, .int (nI (j + 5))), (0, .ref b), (1, .ref (X.2.1 0)), (2, .ref (ay 0))]) hx hb dL_law_1077 hl (k := 3) rfl (nI_add j 5) (by decide) rfl (fun ls hl => ?_)
  refine lv_goto (tgt := 18) hx hb dL_law_1080 (by decide) ?_
  exact ih σ μ H locs ls hw.2 hG (lv_sub hl [1, 2, 3, 0] rfl)
def sm_cut (RR : St → St → Prop) (σ μ : St) : Prop := ∀ a : Int32, wp_X9_cut (fun r σ => wp_X10_cut (fun r2 μ => r = r2 ∧ RR σ μ) a μ) a σ
set_option maxHeartbeats 4000000 in
set_option maxRecDepth 100000 in
theorem lc_cut {p : Program} {l : Launch} {e : Env} {s : State} {m : MethodId} {b L : Nat} {xs : Nat → Int32} {below : List Frame} {meth : Method} {c : Code} {X : wX} {ay : Nat → Nat} {A : Nat → Prop} {RR : St → St → Prop} {cells slots : Nat} {Q : State → Prop} {σ μ : St} {H : Heap} {locs : List Loc} {ls : Array Slot} {j : Nat} (hE : eV p m c code 4 s #[Value.ref b] wsL_law RL X) (hX : va_X b L xs s s.heap) (hbl : b < s.heap.size) (hbA : ¬ A b) (hL : L ≤ 2560) (hj : j + 5 ≤ L) (hcs : cells ≤ room_1.cells ∧ slots ≤ room_1.slots) (hG : gL X ay A s.heap σ μ H locs) (hl : lv_has ls 4 [(0, .ref b), (1, .ref (X.2.1 0)), (2, .ref (ay 0)), (3, .int (nI j))]) (hw : sm_cut RR σ μ) (ih : ∀ (σ μ : St) (H : Heap) (locs : List Loc) (ls : Array Slot), RR σ μ → gL X ay A s.heap σ μ H locs → lv_has ls 4 [(0, .ref b), (1, .ref (X.2.1 0)), (2, .ref (ay 0)), (3, .int (nI (j + 5)))] → W p l e room_1 s m #[Value.ref b] below meth c H locs cells slots Q (F0 m 18 ls [])) : W p l e room_1 s m #[Value.ref b] below meth c H locs cells slots Q (F0 m 985 ls []) := by
  have hx := hE.1.1
  have hb := hE.1.2.1
  have hw := hw (xs (j + 1))
  refine lv_aload_n hx hb dL_law_985 rfl (lv_at hl 1 rfl) ?_
  refine lv_aload_n hx hb dL_law_986 rfl (lv_at hl 0 rfl) ?_
  refine lv_iload_n hx hb dL_law_987 rfl (lv_at hl 3 rfl) ?_
  refine lv_iconst (v := 1) hx hb dL_law_988 (by decide) ?_
  refine lv_iadd hx hb dL_law_989 ?_
  refine l_sld (k := j + 1) hx hb hX hbl hbA hG (nI_add j 1) (by omega) hL dL_law_990 ?_
  refine l_callC hG (g_runV (o := 0) (rm := rm_X9_cut) (As := [.int (xs (j + 1))]) (rest := []) (n := 1) (X := X) (own := RL) hE hG.c (m_X9_cut l X hw _) gL_law_X9_cut rfl rfl rfl (by decide +kernel) ⟨Nat.le_of_ble_eq_true rfl, Nat.le_of_ble_eq_true rfl⟩ (kd_lt kc0 (by decide)) (ce_9 kc0) rfl rfl rfl hl.1 (Nat.le_of_ble_eq_true rfl) dL_law_991 hcs) (fun r σ H locs hw hG => ?_)
  refine lv_aload_n hx hb dL_law_994 rfl (lv_at hl 2 rfl) ?_
  refine lv_aload_n hx hb dL_law_995 rfl (lv_at hl 0 rfl) ?_
  refine lv_iload_n hx hb dL_law_996 rfl (lv_at hl 3 rfl) ?_
  refine lv_iconst (v := 1) hx hb dL_law_997 (by decide) ?_
  refine lv_iadd hx hb dL_law_998 ?_
  refine l_sld (k := j + 1) hx hb hX hbl hbA hG (nI_add j 1) (by omega) hL dL_law_999 ?_
  refine l_callM hG (g_runV (o := 0) (rm := rm_X10_cut) (As := [.int (xs (j + 1))]) (rest := [.int r]) (n := 1) (X := (X.1, ay, X.2.2)) (own := RL) hE hG.m (m_X10_cut l (X.1, ay, X.2.2) hw _) gL_law_X10_cut rfl rfl rfl (by decide +kernel) ⟨Nat.le_of_ble_eq_true rfl, Nat.le_of_ble_eq_true rfl⟩ (kd_lt km0 (by decide)) (ce_10 km0) rfl rfl rfl hl.1 (Nat.le_of_ble_eq_true rfl) dL_law_1000 hcs) (fun r2 μ H locs hw hG => ?_)
  refine lv_icmp_eq (tgt := 1077) hx hb dL_law_1003 (by decide) (fun _ => ?_) (fun h => absurd hw.1 h)
  refine lv_iinc (v := nI (j + 5)) (lv' := [(3, .int (nI (j + 5))), (0, .ref b), (1, .ref (X.2.1 0)), (2, .ref (ay 0))]) hx hb dL_law_1077 hl (k := 3) rfl (nI_add j 5) (by decide) rfl (fun ls hl => ?_)
  refine lv_goto (tgt := 18) hx hb dL_law_1080 (by decide) ?_
  exact ih σ μ H locs ls hw.2 hG (lv_sub hl [1, 2, 3, 0] rfl)
def sm_drain (RR : St → St → Prop) (σ μ : St) : Prop := wp_X9_drain (fun r σ => wp_X10_drain (fun r2 μ => r = r2 ∧ RR σ μ) μ) σ
set_option maxHeartbeats 4000000 in
set_option maxRecDepth 100000 in
theorem lc_drain {p : Program} {l : Launch} {e : Env} {s : State} {m : MethodId} {b L : Nat} {xs : Nat → Int32} {below : List Frame} {meth : Method} {c : Code} {X : wX} {ay : Nat → Nat} {A : Nat → Prop} {RR : St → St → Prop} {cells slots : Nat} {Q : State → Prop} {σ μ : St} {H : Heap} {locs : List Loc} {ls : Array Slot} {j : Nat} (hE : eV p m c code 4 s #[Value.ref b] wsL_law RL X) (hX : va_X b L xs s s.heap) (hbl : b < s.heap.size) (hbA : ¬ A b) (hL : L ≤ 2560) (hj : j + 5 ≤ L) (hcs : cells ≤ room_1.cells ∧ slots ≤ room_1.slots) (hG : gL X ay A s.heap σ μ H locs) (hl : lv_has ls 4 [(0, .ref b), (1, .ref (X.2.1 0)), (2, .ref (ay 0)), (3, .int (nI j))]) (hw : sm_drain RR σ μ) (ih : ∀ (σ μ : St) (H : Heap) (locs : List Loc) (ls : Array Slot), RR σ μ → gL X ay A s.heap σ μ H locs → lv_has ls 4 [(0, .ref b), (1, .ref (X.2.1 0)), (2, .ref (ay 0)), (3, .int (nI (j + 5)))] → W p l e room_1 s m #[Value.ref b] below meth c H locs cells slots Q (F0 m 18 ls [])) : W p l e room_1 s m #[Value.ref b] below meth c H locs cells slots Q (F0 m 1008 ls []) := by
  have hx := hE.1.1
  have hb := hE.1.2.1
  unfold sm_drain at hw
  refine lv_aload_n hx hb dL_law_1008 rfl (lv_at hl 1 rfl) ?_
  refine l_callC hG (g_runV (o := 0) (rm := rm_X9_drain) (As := []) (rest := []) (n := 0) (X := X) (own := RL) hE hG.c (m_X9_drain l X hw _) gL_law_X9_drain rfl rfl rfl (by decide +kernel) ⟨Nat.le_of_ble_eq_true rfl, Nat.le_of_ble_eq_true rfl⟩ (kd_lt kc0 (by decide)) (ce_9 kc0) rfl rfl rfl hl.1 (Nat.le_of_ble_eq_true rfl) dL_law_1009 hcs) (fun r σ H locs hw hG => ?_)
  refine lv_aload_n hx hb dL_law_1012 rfl (lv_at hl 2 rfl) ?_
  refine l_callM hG (g_runV (o := 0) (rm := rm_X10_drain) (As := []) (rest := [.int r]) (n := 0) (X := (X.1, ay, X.2.2)) (own := RL) hE hG.m (m_X10_drain l (X.1, ay, X.2.2) hw _) gL_law_X10_drain rfl rfl rfl (by decide +kernel) ⟨Nat.le_of_ble_eq_true rfl, Nat.le_of_ble_eq_true rfl⟩ (kd_lt km0 (by decide)) (ce_10 km0) rfl rfl rfl hl.1 (Nat.le_of_ble_eq_true rfl) dL_law_1013 hcs) (fun r2 μ H locs hw hG => ?_)
  refine lv_icmp_eq (tgt := 1077) hx hb dL_law_1016 (by decide) (fun _ => ?_) (fun h => absurd hw.1 h)
  refine lv_iinc (v := nI (j + 5)) (lv' := [(3, .int (nI (j + 5))), (0, .ref b), (1, .ref (X.2.1 0)), (2, .ref (ay 0))]) hx hb dL_law_1077 hl (k := 3) rfl (nI_add j 5) (by decide) rfl (fun ls hl => ?_)
  refine lv_goto (tgt := 18) hx hb dL_law_1080 (by decide) ?_
  exact ih σ μ H locs ls hw.2 hG (lv_sub hl [1, 2, 3, 0] rfl)
def sm_bottle (RR : St → St → Prop) (σ μ : St) : Prop := ∀ a b : Int32, wp_X9_bottle (fun r σ => wp_X10_bottle (fun r2 μ => r = r2 ∧ RR σ μ) a b μ) a b σ
set_option maxHeartbeats 4000000 in
set_option maxRecDepth 100000 in
theorem lc_bottle {p : Program} {l : Launch} {e : Env} {s : State} {m : MethodId} {b L : Nat} {xs : Nat → Int32} {below : List Frame} {meth : Method} {c : Code} {X : wX} {ay : Nat → Nat} {A : Nat → Prop} {RR : St → St → Prop} {cells slots : Nat} {Q : State → Prop} {σ μ : St} {H : Heap} {locs : List Loc} {ls : Array Slot} {j : Nat} (hE : eV p m c code 4 s #[Value.ref b] wsL_law RL X) (hX : va_X b L xs s s.heap) (hbl : b < s.heap.size) (hbA : ¬ A b) (hL : L ≤ 2560) (hj : j + 5 ≤ L) (hcs : cells ≤ room_1.cells ∧ slots ≤ room_1.slots) (hG : gL X ay A s.heap σ μ H locs) (hl : lv_has ls 4 [(0, .ref b), (1, .ref (X.2.1 0)), (2, .ref (ay 0)), (3, .int (nI j))]) (hw : sm_bottle RR σ μ) (ih : ∀ (σ μ : St) (H : Heap) (locs : List Loc) (ls : Array Slot), RR σ μ → gL X ay A s.heap σ μ H locs → lv_has ls 4 [(0, .ref b), (1, .ref (X.2.1 0)), (2, .ref (ay 0)), (3, .int (nI (j + 5)))] → W p l e room_1 s m #[Value.ref b] below meth c H locs cells slots Q (F0 m 18 ls [])) : W p l e room_1 s m #[Value.ref b] below meth c H locs cells slots Q (F0 m 1021 ls []) := by
  have hx := hE.1.1
  have hb := hE.1.2.1
  have hw := hw (xs (j + 1)) (xs (j + 2))
  refine lv_aload_n hx hb dL_law_1021 rfl (lv_at hl 1 rfl) ?_
  refine lv_aload_n hx hb dL_law_1022 rfl (lv_at hl 0 rfl) ?_
  refine lv_iload_n hx hb dL_law_1023 rfl (lv_at hl 3 rfl) ?_
  refine lv_iconst (v := 1) hx hb dL_law_1024 (by decide) ?_
  refine lv_iadd hx hb dL_law_1025 ?_
  refine l_sld (k := j + 1) hx hb hX hbl hbA hG (nI_add j 1) (by omega) hL dL_law_1026 ?_
  refine lv_aload_n hx hb dL_law_1027 rfl (lv_at hl 0 rfl) ?_
  refine lv_iload_n hx hb dL_law_1028 rfl (lv_at hl 3 rfl) ?_
  refine lv_iconst (v := 2) hx hb dL_law_1029 (by decide) ?_
  refine lv_iadd hx hb dL_law_1030 ?_
  refine l_sld (k := j + 2) hx hb hX hbl hbA hG (nI_add j 2) (by omega) hL dL_law_1031 ?_
  refine l_callC hG (g_runV (o := 0) (rm := rm_X9_bottle) (As := [.int (xs (j + 1)), .int (xs (j + 2))]) (rest := []) (n := 2) (X := X) (own := RL) hE hG.c (m_X9_bottle l X hw _) gL_law_X9_bottle rfl rfl rfl (by decide +kernel) ⟨Nat.le_of_ble_eq_true rfl, Nat.le_of_ble_eq_true rfl⟩ (kd_lt kc0 (by decide)) (ce_9 kc0) rfl rfl rfl hl.1 (Nat.le_of_ble_eq_true rfl) dL_law_1032 hcs) (fun r σ H locs hw hG => ?_)
  refine lv_aload_n hx hb dL_law_1035 rfl (lv_at hl 2 rfl) ?_
  refine lv_aload_n hx hb dL_law_1036 rfl (lv_at hl 0 rfl) ?_
  refine lv_iload_n hx hb dL_law_1037 rfl (lv_at hl 3 rfl) ?_
  refine lv_iconst (v := 1) hx hb dL_law_1038 (by decide) ?_
  refine lv_iadd hx hb dL_law_1039 ?_
  refine l_sld (k := j + 1) hx hb hX hbl hbA hG (nI_add j 1) (by omega) hL dL_law_1040 ?_
  refine lv_aload_n hx hb dL_law_1041 rfl (lv_at hl 0 rfl) ?_
  refine lv_iload_n hx hb dL_law_1042 rfl (lv_at hl 3 rfl) ?_
  refine lv_iconst (v := 2) hx hb dL_law_1043 (by decide) ?_
  refine lv_iadd hx hb dL_law_1044 ?_
  refine l_sld (k := j + 2) hx hb hX hbl hbA hG (nI_add j 2) (by omega) hL dL_law_1045 ?_
  refine l_callM hG (g_runV (o := 0) (rm := rm_X10_bottle) (As := [.int (xs (j + 1)), .int (xs (j + 2))]) (rest := [.int r]) (n := 2) (X := (X.1, ay, X.2.2)) (own := RL) hE hG.m (m_X10_bottle l (X.1, ay, X.2.2) hw _) gL_law_X10_bottle rfl rfl rfl (by decide +kernel) ⟨Nat.le_of_ble_eq_true rfl, Nat.le_of_ble_eq_true rfl⟩ (kd_lt km0 (by decide)) (ce_10 km0) rfl rfl rfl hl.1 (Nat.le_of_ble_eq_true rfl) dL_law_1046 hcs) (fun r2 μ H locs hw hG => ?_)
  refine lv_icmp_eq (tgt := 1077) hx hb dL_law_1049 (by decide) (fun _ => ?_) (fun h => absurd hw.1 h)
  refine lv_iinc (v := nI (j + 5)) (lv' := [(3, .int (nI (j + 5))), (0, .ref b), (1, .ref (X.2.1 0)), (2, .ref (ay 0))]) hx hb dL_law_1077 hl (k := 3) rfl (nI_add j 5) (by decide) rfl (fun ls hl => ?_)
  refine lv_goto (tgt := 18) hx hb dL_law_1080 (by decide) ?_
  exact ih σ μ H locs ls hw.2 hG (lv_sub hl [1, 2, 3, 0] rfl)
def sm_many (RR : St → St → Prop) (σ μ : St) : Prop := ∀ a : Int32, wp_X9_many (fun r σ => wp_X10_many (fun r2 μ => r = r2 ∧ RR σ μ) a μ) a σ
set_option maxHeartbeats 4000000 in
set_option maxRecDepth 100000 in
theorem lc_many {p : Program} {l : Launch} {e : Env} {s : State} {m : MethodId} {b L : Nat} {xs : Nat → Int32} {below : List Frame} {meth : Method} {c : Code} {X : wX} {ay : Nat → Nat} {A : Nat → Prop} {RR : St → St → Prop} {cells slots : Nat} {Q : State → Prop} {σ μ : St} {H : Heap} {locs : List Loc} {ls : Array Slot} {j : Nat} (hE : eV p m c code 4 s #[Value.ref b] wsL_law RL X) (hX : va_X b L xs s s.heap) (hbl : b < s.heap.size) (hbA : ¬ A b) (hL : L ≤ 2560) (hj : j + 5 ≤ L) (hcs : cells ≤ room_1.cells ∧ slots ≤ room_1.slots) (hG : gL X ay A s.heap σ μ H locs) (hl : lv_has ls 4 [(0, .ref b), (1, .ref (X.2.1 0)), (2, .ref (ay 0)), (3, .int (nI j))]) (hw : sm_many RR σ μ) (ih : ∀ (σ μ : St) (H : Heap) (locs : List Loc) (ls : Array Slot), RR σ μ → gL X ay A s.heap σ μ H locs → lv_has ls 4 [(0, .ref b), (1, .ref (X.2.1 0)), (2, .ref (ay 0)), (3, .int (nI (j + 5)))] → W p l e room_1 s m #[Value.ref b] below meth c H locs cells slots Q (F0 m 18 ls [])) : W p l e room_1 s m #[Value.ref b] below meth c H locs cells slots Q (F0 m 1054 ls []) := by
  have hx := hE.1.1
  have hb := hE.1.2.1
  have hw := hw (xs (j + 1))
  refine lv_aload_n hx hb dL_law_1054 rfl (lv_at hl 1 rfl) ?_
  refine lv_aload_n hx hb dL_law_1055 rfl (lv_at hl 0 rfl) ?_
  refine lv_iload_n hx hb dL_law_1056 rfl (lv_at hl 3 rfl) ?_
  refine lv_iconst (v := 1) hx hb dL_law_1057 (by decide) ?_
  refine lv_iadd hx hb dL_law_1058 ?_
  refine l_sld (k := j + 1) hx hb hX hbl hbA hG (nI_add j 1) (by omega) hL dL_law_1059 ?_
  refine l_callC hG (g_runV (o := 0) (rm := rm_X9_many) (As := [.int (xs (j + 1))]) (rest := []) (n := 1) (X := X) (own := RL) hE hG.c (m_X9_many l X hw _) gL_law_X9_many rfl rfl rfl (by decide +kernel) ⟨Nat.le_of_ble_eq_true rfl, Nat.le_of_ble_eq_true rfl⟩ (kd_lt kc0 (by decide)) (ce_9 kc0) rfl rfl rfl hl.1 (Nat.le_of_ble_eq_true rfl) dL_law_1060 hcs) (fun r σ H locs hw hG => ?_)
  refine lv_aload_n hx hb dL_law_1063 rfl (lv_at hl 2 rfl) ?_
  refine lv_aload_n hx hb dL_law_1064 rfl (lv_at hl 0 rfl) ?_
  refine lv_iload_n hx hb dL_law_1065 rfl (lv_at hl 3 rfl) ?_
  refine lv_iconst (v := 1) hx hb dL_law_1066 (by decide) ?_
  refine lv_iadd hx hb dL_law_1067 ?_
  refine l_sld (k := j + 1) hx hb hX hbl hbA hG (nI_add j 1) (by omega) hL dL_law_1068 ?_
  refine l_callM hG (g_runV (o := 0) (rm := rm_X10_many) (As := [.int (xs (j + 1))]) (rest := [.int r]) (n := 1) (X := (X.1, ay, X.2.2)) (own := RL) hE hG.m (m_X10_many l (X.1, ay, X.2.2) hw _) gL_law_X10_many rfl rfl rfl (by decide +kernel) ⟨Nat.le_of_ble_eq_true rfl, Nat.le_of_ble_eq_true rfl⟩ (kd_lt km0 (by decide)) (ce_10 km0) rfl rfl rfl hl.1 (Nat.le_of_ble_eq_true rfl) dL_law_1069 hcs) (fun r2 μ H locs hw hG => ?_)
  refine lv_icmp_eq (tgt := 1077) hx hb dL_law_1072 (by decide) (fun _ => ?_) (fun h => absurd hw.1 h)
  refine lv_iinc (v := nI (j + 5)) (lv' := [(3, .int (nI (j + 5))), (0, .ref b), (1, .ref (X.2.1 0)), (2, .ref (ay 0))]) hx hb dL_law_1077 hl (k := 3) rfl (nI_add j 5) (by decide) rfl (fun ls hl => ?_)
  refine lv_goto (tgt := 18) hx hb dL_law_1080 (by decide) ?_
  exact ih σ μ H locs ls hw.2 hG (lv_sub hl [1, 2, 3, 0] rfl)
def SIM (RR : St → St → Prop) : Prop := ∀ σ μ, RR σ μ → sm_set RR σ μ ∧ sm_turn RR σ μ ∧ sm_copy RR σ μ ∧ sm_law RR σ μ ∧ sm_repeal RR σ μ ∧ sm_pace RR σ μ ∧ sm_fastest RR σ μ ∧ sm_act RR σ μ ∧ sm_would RR σ μ ∧ sm_arm RR σ μ ∧ sm_knot RR σ μ ∧ sm_forget RR σ μ ∧ sm_place RR σ μ ∧ sm_nearest RR σ μ ∧ sm_stop RR σ μ ∧ sm_start RR σ μ ∧ sm_job RR σ μ ∧ sm_aim RR σ μ ∧ sm_glass RR σ μ ∧ sm_mould RR σ μ ∧ sm_swab RR σ μ ∧ sm_repair RR σ μ ∧ sm_pull RR σ μ ∧ sm_rule RR σ μ ∧ sm_book RR σ μ ∧ sm_cut RR σ μ ∧ sm_drain RR σ μ ∧ sm_bottle RR σ μ ∧ sm_many RR σ μ
set_option maxHeartbeats 8000000 in
set_option maxRecDepth 100000 in
theorem law_loop {p : Program} {l : Launch} {e : Env} {s : State} {m : MethodId} {b L : Nat} {xs : Nat → Int32} {below : List Frame} {meth : Method} {c : Code} {X : wX} {ay : Nat → Nat} {RR : St → St → Prop} {cells slots : Nat} (hc1 : cells ≤ 600000) (hs1 : slots ≤ 7302250) (hE : eV p m c code 4 s #[Value.ref b] wsL_law RL X) (hX : va_X b L xs s s.heap) (hbl : b < s.heap.size) (hL : L ≤ 2560) (hr : meth.sig.returnType = ret) (hlk : meth.locks = false) (hcs : cells ≤ room_1.cells ∧ slots ≤ room_1.slots) (hSIM : SIM RR) :
    ∀ (n j : Nat) (σ μ : St) (H : Heap) (locs : List Loc) (ls : Array Slot), L < j + 5 * n → RR σ μ → gL X ay (fun q : Nat => s.heap.size ≤ q) s.heap σ μ H locs → lv_has ls 4 [(0, .ref b), (1, .ref (X.2.1 0)), (2, .ref (ay 0)), (3, .int (nI j))] → j ≤ 2565 → W p l e room_1 s m #[Value.ref b] below meth c H locs cells slots (lw_Z below #[Value.ref b] s) (F0 m 18 ls []) := by
  have hx := hE.1.1
  have hb := hE.1.2.1
  have hbA : ¬ (fun q : Nat => s.heap.size ≤ q) b := Nat.not_le.mpr hbl
  intro n
  induction n with
  | zero =>
    intro j σ μ H locs ls hn hR hG hl hj
    refine lv_iload_n hx hb dL_law_18 rfl (lv_at hl 3 rfl) ?_
    refine lv_aload_n hx hb dL_law_19 rfl (lv_at hl 0 rfl) ?_
    refine va_slen hx hb hX hbl hbA hG.2.2.2.1 dL_law_20 ?_
    refine lv_iconst (v := 5) hx hb dL_law_21 (by decide) ?_
    refine lv_isub hx hb dL_law_22 ?_
    refine lv_icmp_gt (tgt := 1083) hx hb dL_law_23 (by decide) (fun _ => ?_) (fun h => absurd (law_gt (by omega) (by omega) hL) h)
    refine lv_iconst (v := 1) hx hb dL_law_1083 (by decide) ?_
    refine va_forget (fun q hq => hG.2.2.2.1.2.2 q hq) ?_
    refine W.widen (k := 600000) (n := 7302250) hc1 hs1 ?_
    exact lw_ret hx hb hr hlk dL_law_1084
  | succ n ih =>
    intro j σ μ H locs ls hn hR hG hl hj
    refine lv_iload_n hx hb dL_law_18 rfl (lv_at hl 3 rfl) ?_
    refine lv_aload_n hx hb dL_law_19 rfl (lv_at hl 0 rfl) ?_
    refine va_slen hx hb hX hbl hbA hG.2.2.2.1 dL_law_20 ?_
    refine lv_iconst (v := 5) hx hb dL_law_21 (by decide) ?_
    refine lv_isub hx hb dL_law_22 ?_
    by_cases hjl : j + 5 ≤ L
    · refine lv_icmp_gt (tgt := 1083) hx hb dL_law_23 (by decide) (fun h => absurd h (law_ngt hjl hL)) (fun _ => ?_)
      have ih2 : ∀ (σ μ : St) (H : Heap) (locs : List Loc) (ls : Array Slot), RR σ μ → gL X ay (fun q : Nat => s.heap.size ≤ q) s.heap σ μ H locs → lv_has ls 4 [(0, .ref b), (1, .ref (X.2.1 0)), (2, .ref (ay 0)), (3, .int (nI (j + 5)))] → W p l e room_1 s m #[Value.ref b] below meth c H locs cells slots (lw_Z below #[Value.ref b] s) (F0 m 18 ls []) := fun σ μ H locs ls h1 h2 h3 => ih (j + 5) σ μ H locs ls (by omega) h1 h2 h3 (by omega)
      refine lv_aload_n hx hb dL_law_26 rfl (lv_at hl 0 rfl) ?_
      refine lv_iload_n hx hb dL_law_27 rfl (lv_at hl 3 rfl) ?_
      refine l_sld (k := j) hx hb hX hbl hbA hG rfl (by omega) hL dL_law_28 ?_
      refine lv_bipush (v := (31)) hx hb dL_law_29 (by decide) ?_
      refine lv_iand hx hb dL_law_31 ?_
      obtain ⟨k, hk, ek⟩ := pk_andE (xs j) (m := 31) 5 (by decide)
      rw [ek]
      have hS := hSIM σ μ hR
      rcases (show k = 0 ∨ k = 1 ∨ k = 2 ∨ k = 3 ∨ k = 4 ∨ k = 5 ∨ k = 6 ∨ k = 7 ∨ k = 8 ∨ k = 9 ∨ k = 10 ∨ k = 11 ∨ k = 12 ∨ k = 13 ∨ k = 14 ∨ k = 15 ∨ k = 16 ∨ k = 17 ∨ k = 18 ∨ k = 19 ∨ k = 20 ∨ k = 21 ∨ k = 22 ∨ k = 23 ∨ k = 24 ∨ k = 25 ∨ k = 26 ∨ k = 27 ∨ k = 28 ∨ k = 29 ∨ k = 30 ∨ k = 31 by omega) with rfl | rfl | rfl | rfl | rfl | rfl | rfl | rfl | rfl | rfl | rfl | rfl | rfl | rfl | rfl | rfl | rfl | rfl | rfl | rfl | rfl | rfl | rfl | rfl | rfl | rfl | rfl | rfl | rfl | rfl | rfl | rfl
      · refine lv_tableIn (tgt := 164) hx hb dL_law_32 (by decide) (by decide) rfl (by decide) ?_
        exact lc_set hE hX hbl hbA hL hjl hcs hG hl (hS.1) ih2
      · refine lv_tableIn (tgt := 217) hx hb dL_law_32 (by decide) (by decide) rfl (by decide) ?_
        exact lc_turn hE hX hbl hbA hL hjl hcs hG hl (hS.2.1) ih2
      · refine lv_tableIn (tgt := 250) hx hb dL_law_32 (by decide) (by decide) rfl (by decide) ?_
        exact lc_copy hE hX hbl hbA hL hjl hcs hG hl (hS.2.2.1) ih2
      · refine lv_tableIn (tgt := 283) hx hb dL_law_32 (by decide) (by decide) rfl (by decide) ?_
        exact lc_law hE hX hbl hbA hL hjl hcs hG hl (hS.2.2.2.1) ih2
      · refine lv_tableIn (tgt := 336) hx hb dL_law_32 (by decide) (by decide) rfl (by decide) ?_
        exact lc_repeal hE hX hbl hbA hL hjl hcs hG hl (hS.2.2.2.2.1) ih2
      · refine lv_tableIn (tgt := 349) hx hb dL_law_32 (by decide) (by decide) rfl (by decide) ?_
        exact lc_pace hE hX hbl hbA hL hjl hcs hG hl (hS.2.2.2.2.2.1) ih2
      · refine lv_tableIn (tgt := 372) hx hb dL_law_32 (by decide) (by decide) rfl (by decide) ?_
        exact lc_fastest hE hX hbl hbA hL hjl hcs hG hl (hS.2.2.2.2.2.2.1) ih2
      · refine lv_tableIn (tgt := 385) hx hb dL_law_32 (by decide) (by decide) rfl (by decide) ?_
        exact lc_act hE hX hbl hbA hL hjl hcs hG hl (hS.2.2.2.2.2.2.2.1) ih2
      · refine lv_tableIn (tgt := 438) hx hb dL_law_32 (by decide) (by decide) rfl (by decide) ?_
        exact lc_would hE hX hbl hbA hL hjl hcs hG hl (hS.2.2.2.2.2.2.2.2.1) ih2
      · refine lv_tableIn (tgt := 491) hx hb dL_law_32 (by decide) (by decide) rfl (by decide) ?_
        exact lc_arm hE hX hbl hbA hL hjl hcs hG hl (hS.2.2.2.2.2.2.2.2.2.1) ih2
      · refine lv_tableIn (tgt := 514) hx hb dL_law_32 (by decide) (by decide) rfl (by decide) ?_
        exact lc_knot hE hX hbl hbA hL hjl hcs hG hl (hS.2.2.2.2.2.2.2.2.2.2.1) ih2
      · refine lv_tableIn (tgt := 547) hx hb dL_law_32 (by decide) (by decide) rfl (by decide) ?_
        exact lc_forget hE hX hbl hbA hL hjl hcs hG hl (hS.2.2.2.2.2.2.2.2.2.2.2.1) ih2
      · refine lv_tableIn (tgt := 560) hx hb dL_law_32 (by decide) (by decide) rfl (by decide) ?_
        exact lc_place hE hX hbl hbA hL hjl hcs hG hl (hS.2.2.2.2.2.2.2.2.2.2.2.2.1) ih2
      · refine lv_tableIn (tgt := 603) hx hb dL_law_32 (by decide) (by decide) rfl (by decide) ?_
        exact lc_nearest hE hX hbl hbA hL hjl hcs hG hl (hS.2.2.2.2.2.2.2.2.2.2.2.2.2.1) ih2
      · refine lv_tableIn (tgt := 636) hx hb dL_law_32 (by decide) (by decide) rfl (by decide) ?_
        exact lc_stop hE hX hbl hbA hL hjl hcs hG hl (hS.2.2.2.2.2.2.2.2.2.2.2.2.2.2.1) ih2
      · refine lv_tableIn (tgt := 659) hx hb dL_law_32 (by decide) (by decide) rfl (by decide) ?_
        exact lc_start hE hX hbl hbA hL hjl hcs hG hl (hS.2.2.2.2.2.2.2.2.2.2.2.2.2.2.2.1) ih2
      · refine lv_tableIn (tgt := 682) hx hb dL_law_32 (by decide) (by decide) rfl (by decide) ?_
        exact lc_job hE hX hbl hbA hL hjl hcs hG hl (hS.2.2.2.2.2.2.2.2.2.2.2.2.2.2.2.2.1) ih2
      · refine lv_tableIn (tgt := 715) hx hb dL_law_32 (by decide) (by decide) rfl (by decide) ?_
        exact lc_aim hE hX hbl hbA hL hjl hcs hG hl (hS.2.2.2.2.2.2.2.2.2.2.2.2.2.2.2.2.2.1) ih2
      · refine lv_tableIn (tgt := 758) hx hb dL_law_32 (by decide) (by decide) rfl (by decide) ?_
        exact lc_glass hE hX hbl hbA hL hjl hcs hG hl (hS.2.2.2.2.2.2.2.2.2.2.2.2.2.2.2.2.2.2.1) ih2
      · refine lv_tableIn (tgt := 791) hx hb dL_law_32 (by decide) (by decide) rfl (by decide) ?_
        exact lc_mould hE hX hbl hbA hL hjl hcs hG hl (hS.2.2.2.2.2.2.2.2.2.2.2.2.2.2.2.2.2.2.2.1) ih2
      · refine lv_tableIn (tgt := 824) hx hb dL_law_32 (by decide) (by decide) rfl (by decide) ?_
        exact lc_swab hE hX hbl hbA hL hjl hcs hG hl (hS.2.2.2.2.2.2.2.2.2.2.2.2.2.2.2.2.2.2.2.2.1) ih2
      · refine lv_tableIn (tgt := 847) hx hb dL_law_32 (by decide) (by decide) rfl (by decide) ?_
        exact lc_repair hE hX hbl hbA hL hjl hcs hG hl (hS.2.2.2.2.2.2.2.2.2.2.2.2.2.2.2.2.2.2.2.2.2.1) ih2
      · refine lv_tableIn (tgt := 870) hx hb dL_law_32 (by decide) (by decide) rfl (by decide) ?_
        exact lc_pull hE hX hbl hbA hL hjl hcs hG hl (hS.2.2.2.2.2.2.2.2.2.2.2.2.2.2.2.2.2.2.2.2.2.2.1) ih2
      · refine lv_tableIn (tgt := 919) hx hb dL_law_32 (by decide) (by decide) rfl (by decide) ?_
        exact lc_rule hE hX hbl hbA hL hjl hcs hG hl (hS.2.2.2.2.2.2.2.2.2.2.2.2.2.2.2.2.2.2.2.2.2.2.2.1) ih2
      · refine lv_tableIn (tgt := 952) hx hb dL_law_32 (by decide) (by decide) rfl (by decide) ?_
        exact lc_book hE hX hbl hbA hL hjl hcs hG hl (hS.2.2.2.2.2.2.2.2.2.2.2.2.2.2.2.2.2.2.2.2.2.2.2.2.1) ih2
      · refine lv_tableIn (tgt := 985) hx hb dL_law_32 (by decide) (by decide) rfl (by decide) ?_
        exact lc_cut hE hX hbl hbA hL hjl hcs hG hl (hS.2.2.2.2.2.2.2.2.2.2.2.2.2.2.2.2.2.2.2.2.2.2.2.2.2.1) ih2
      · refine lv_tableIn (tgt := 1008) hx hb dL_law_32 (by decide) (by decide) rfl (by decide) ?_
        exact lc_drain hE hX hbl hbA hL hjl hcs hG hl (hS.2.2.2.2.2.2.2.2.2.2.2.2.2.2.2.2.2.2.2.2.2.2.2.2.2.2.1) ih2
      · refine lv_tableIn (tgt := 1021) hx hb dL_law_32 (by decide) (by decide) rfl (by decide) ?_
        exact lc_bottle hE hX hbl hbA hL hjl hcs hG hl (hS.2.2.2.2.2.2.2.2.2.2.2.2.2.2.2.2.2.2.2.2.2.2.2.2.2.2.2.1) ih2
      · refine lv_tableIn (tgt := 1054) hx hb dL_law_32 (by decide) (by decide) rfl (by decide) ?_
        exact lc_many hE hX hbl hbA hL hjl hcs hG hl (hS.2.2.2.2.2.2.2.2.2.2.2.2.2.2.2.2.2.2.2.2.2.2.2.2.2.2.2.2) ih2
      · refine lv_tableOut (tgt := 1077) hx hb dL_law_32 (by decide) (by decide) ?_
        refine lv_iinc (v := nI (j + 5)) (lv' := [(3, .int (nI (j + 5))), (0, .ref b), (1, .ref (X.2.1 0)), (2, .ref (ay 0))]) hx hb dL_law_1077 hl (k := 3) rfl (nI_add j 5) (by decide) rfl (fun ls hl => ?_)
        refine lv_goto (tgt := 18) hx hb dL_law_1080 (by decide) ?_
        exact ih2 σ μ H locs ls hR hG (lv_sub hl [1, 2, 3, 0] rfl)
      · refine lv_tableOut (tgt := 1077) hx hb dL_law_32 (by decide) (by decide) ?_
        refine lv_iinc (v := nI (j + 5)) (lv' := [(3, .int (nI (j + 5))), (0, .ref b), (1, .ref (X.2.1 0)), (2, .ref (ay 0))]) hx hb dL_law_1077 hl (k := 3) rfl (nI_add j 5) (by decide) rfl (fun ls hl => ?_)
        refine lv_goto (tgt := 18) hx hb dL_law_1080 (by decide) ?_
        exact ih2 σ μ H locs ls hR hG (lv_sub hl [1, 2, 3, 0] rfl)
      · refine lv_tableOut (tgt := 1077) hx hb dL_law_32 (by decide) (by decide) ?_
        refine lv_iinc (v := nI (j + 5)) (lv' := [(3, .int (nI (j + 5))), (0, .ref b), (1, .ref (X.2.1 0)), (2, .ref (ay 0))]) hx hb dL_law_1077 hl (k := 3) rfl (nI_add j 5) (by decide) rfl (fun ls hl => ?_)
        refine lv_goto (tgt := 18) hx hb dL_law_1080 (by decide) ?_
        exact ih2 σ μ H locs ls hR hG (lv_sub hl [1, 2, 3, 0] rfl)
    · refine lv_icmp_gt (tgt := 1083) hx hb dL_law_23 (by decide) (fun _ => ?_) (fun h => absurd (law_gt (by omega) (by omega) hL) h)
      refine lv_iconst (v := 1) hx hb dL_law_1083 (by decide) ?_
      refine va_forget (fun q hq => hG.2.2.2.1.2.2 q hq) ?_
      refine W.widen (k := 600000) (n := 7302250) hc1 hs1 ?_
      exact lw_ret hx hb hr hlk dL_law_1084
