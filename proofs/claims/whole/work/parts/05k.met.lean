/-! contracts, by program -/
set_option maxHeartbeats 4000000 in
set_option maxRecDepth 100000 in
theorem b_X10_cutOne_210 {p : Program} {l : Launch} {e : Env} {s : State} {m : MethodId} {args : Array Value} {below : List Frame} {meth : Method} {c : Code} {X : wX} {A : Nat → Prop} {H : Heap} {locs : List Loc} {ls : Array Slot} {σ : St} (hE : eV p m c cX10_cutOne 5 s args wsX10_cutOne RX10 X) (hr : meth.sig.returnType = none) (hlk : meth.locks = false) {Q : St → Prop} {z0 : Int32} {z1 : Int32} (hw : wb_X10_cutOne_210 Q z0 z1 σ) (hG : gW X kmL A s.heap σ H locs) (hl : lv_has ls 5 [(0, .ref (X.2.1 0))]) : W p l e rm_X10_cutOne s m args below meth c H locs 0 0 (zV X kmL below args s A Q) (F0 m 210 ls [.int z0, .int z1, .ref (X.2.1 0)]) := by
  have hx := hE.1.1
  have hb := hE.1.2.1
  unfold wb_X10_cutOne_210 at hw
  refine lv_isub hx hb dX10_cutOne_210 ?_
  refine g_put (k := 30) (x := (z1 - z0)) (ty := .int) hE hG (kd_lt km0 (by decide)) (ce_10 km0) (by rw [ce_10 km0]; rfl) rfl (by decide +kernel) tyX10 tyX10_ok nmX10 (by decide) (by decide +kernel) rfl rfl (by decide +kernel) rfl rfl (Nat.le_of_ble_eq_true rfl) dX10_cutOne_211 (fun σ38 H locs eσ38 hG => ?_)
  have hw := hw σ38 eσ38
  refine lv_aload_n hx hb dX10_cutOne_214 rfl (lv_at hl 0 rfl) ?_
  refine lv_dup hx hb dX10_cutOne_215 rfl ?_
  refine g_get (k := 32) hE hG (kd_lt km0 (by decide)) (ce_10 km0) rfl (by decide +kernel) (by decide) (by decide +kernel) rfl rfl dX10_cutOne_216 ?_
  refine lv_iconst (v := 1) hx hb dX10_cutOne_219 (by decide) ?_
  refine lv_iadd hx hb dX10_cutOne_220 ?_
  refine g_put (k := 32) (x := ((σ38 0 32) + (1 : Int32))) (ty := .int) hE hG (kd_lt km0 (by decide)) (ce_10 km0) (by rw [ce_10 km0]; rfl) rfl (by decide +kernel) tyX10 tyX10_ok nmX10 (by decide) (by decide +kernel) rfl rfl (by decide +kernel) rfl rfl (Nat.le_of_ble_eq_true rfl) dX10_cutOne_221 (fun σ39 H locs eσ39 hG => ?_)
  have hw := hw σ39 eσ39
  refine lv_aload_n hx hb dX10_cutOne_224 rfl (lv_at hl 0 rfl) ?_
  refine lv_dup hx hb dX10_cutOne_225 rfl ?_
  refine g_get (k := 31) hE hG (kd_lt km0 (by decide)) (ce_10 km0) rfl (by decide +kernel) (by decide) (by decide +kernel) rfl rfl dX10_cutOne_226 ?_
  refine lv_iconst (v := 1) hx hb dX10_cutOne_229 (by decide) ?_
  refine lv_iadd hx hb dX10_cutOne_230 ?_
  refine g_put (k := 31) (x := ((σ39 0 31) + (1 : Int32))) (ty := .int) hE hG (kd_lt km0 (by decide)) (ce_10 km0) (by rw [ce_10 km0]; rfl) rfl (by decide +kernel) tyX10 tyX10_ok nmX10 (by decide) (by decide +kernel) rfl rfl (by decide +kernel) rfl rfl (Nat.le_of_ble_eq_true rfl) dX10_cutOne_231 (fun σ40 H locs eσ40 hG => ?_)
  have hw := hw σ40 eσ40
  refine lv_aload_n hx hb dX10_cutOne_234 rfl (lv_at hl 0 rfl) ?_
  refine lv_aload_n hx hb dX10_cutOne_235 rfl (lv_at hl 0 rfl) ?_
  refine g_get (k := 16) hE hG (kd_lt km0 (by decide)) (ce_10 km0) rfl (by decide +kernel) (by decide) (by decide +kernel) rfl rfl dX10_cutOne_236 ?_
  refine lv_iconst (v := 1) hx hb dX10_cutOne_239 (by decide) ?_
  refine lv_iadd hx hb dX10_cutOne_240 ?_
  refine lv_aload_n hx hb dX10_cutOne_241 rfl (lv_at hl 0 rfl) ?_
  refine g_get (k := 14) hE hG (kd_lt km0 (by decide)) (ce_10 km0) rfl (by decide +kernel) (by decide) (by decide +kernel) rfl rfl dX10_cutOne_242 ?_
  obtain ⟨hz41, hw⟩ := hw
  refine lv_irem hx hb dX10_cutOne_245 hz41 ?_
  refine g_put (k := 16) (x := (jrem ((σ40 0 16) + (1 : Int32)) (σ40 0 14))) (ty := .int) hE hG (kd_lt km0 (by decide)) (ce_10 km0) (by rw [ce_10 km0]; rfl) rfl (by decide +kernel) tyX10 tyX10_ok nmX10 (by decide) (by decide +kernel) rfl rfl (by decide +kernel) rfl rfl (Nat.le_of_ble_eq_true rfl) dX10_cutOne_246 (fun σ42 H locs eσ42 hG => ?_)
  have hw := hw σ42 eσ42
  exact g_vret hE hG hr hlk dX10_cutOne_249 hw

set_option maxHeartbeats 4000000 in
set_option maxRecDepth 100000 in
theorem b_X10_cutOne_192 {p : Program} {l : Launch} {e : Env} {s : State} {m : MethodId} {args : Array Value} {below : List Frame} {meth : Method} {c : Code} {X : wX} {A : Nat → Prop} {H : Heap} {locs : List Loc} {ls : Array Slot} {σ : St} (hE : eV p m c cX10_cutOne 5 s args wsX10_cutOne RX10 X) (hr : meth.sig.returnType = none) (hlk : meth.locks = false) {Q : St → Prop} {z0 : Int32} {z1 : Int32} (hw : wb_X10_cutOne_192 Q z0 z1 σ) (hG : gW X kmL A s.heap σ H locs) (hl : lv_has ls 5 [(0, .ref (X.2.1 0))]) : W p l e rm_X10_cutOne s m args below meth c H locs 0 0 (zV X kmL below args s A Q) (F0 m 192 ls [.int z0, .int z1, .ref (X.2.1 28)]) := by
  have hx := hE.1.1
  have hb := hE.1.2.1
  unfold wb_X10_cutOne_192 at hw
  obtain ⟨hi35, hw⟩ := hw
  refine g_iast (n := 12) hE hG (kd_lt km28 (by decide)) (fun _ => ce_int km28 (by decide) (by decide)) hi35 dX10_cutOne_192 (fun σ36 H locs eσ36 hG => ?_)
  have hw := hw σ36 eσ36
  refine lv_aload_n hx hb dX10_cutOne_193 rfl (lv_at hl 0 rfl) ?_
  refine lv_dup hx hb dX10_cutOne_194 rfl ?_
  refine g_get (k := 30) hE hG (kd_lt km0 (by decide)) (ce_10 km0) rfl (by decide +kernel) (by decide) (by decide +kernel) rfl rfl dX10_cutOne_195 ?_
  refine lv_aload_n hx hb dX10_cutOne_198 rfl (lv_at hl 0 rfl) ?_
  refine g_get (k := 30) hE hG (kd_lt km0 (by decide)) (ce_10 km0) rfl (by decide +kernel) (by decide) (by decide +kernel) rfl rfl dX10_cutOne_199 ?_
  refine lv_if_le (tgt := 209) hx hb dX10_cutOne_202 (by decide) (fun hc37 => ?_) (fun hc37 => ?_)
  · have hw := hw.1 hc37
    refine lv_iconst (v := 0) hx hb dX10_cutOne_209 (by decide) ?_
    exact b_X10_cutOne_210 hE hr hlk hw hG (lv_sub hl [0] rfl)
  · have hw := hw.2 hc37
    refine lv_iconst (v := 1) hx hb dX10_cutOne_205 (by decide) ?_
    refine lv_goto (tgt := 210) hx hb dX10_cutOne_206 (by decide) ?_
    exact b_X10_cutOne_210 hE hr hlk hw hG (lv_sub hl [0] rfl)

set_option maxHeartbeats 4000000 in
set_option maxRecDepth 100000 in
theorem m_X10_cutOne (l : Launch) (X : wX) {Q : St → Prop} {σ : St} (hw : wp_X10_cutOne Q σ) : mV X kmL l yX10_cutOne wsX10_cutOne rm_X10_cutOne [.ref (X.2.1 0)] σ Q := by
  refine mV.of (cc := cX10_cutOne) (maxL := 5) (ret := none) (by decide +kernel) rfl (Nat.le_of_ble_eq_true rfl) ?_
  intro A p e s m args below meth c ls hE hr hlk hl hG
  have hx := hE.1.1
  have hb := hE.1.2.1
  unfold wp_X10_cutOne at hw
  have hl : lv_has ls 5 [(0, .ref (X.2.1 0))] := hl
  refine lv_aload_n hx hb dX10_cutOne_0 rfl (lv_at hl 0 rfl) ?_
  refine g_get (k := 15) hE hG (kd_lt km0 (by decide)) (ce_10 km0) rfl (by decide +kernel) (by decide) (by decide +kernel) rfl rfl dX10_cutOne_1 ?_
  refine lv_aload_n hx hb dX10_cutOne_4 rfl (lv_at hl 0 rfl) ?_
  refine g_get (k := 16) hE hG (kd_lt km0 (by decide)) (ce_10 km0) rfl (by decide +kernel) (by decide) (by decide +kernel) rfl rfl dX10_cutOne_5 ?_
  obtain ⟨hi1, hw⟩ := hw
  refine g_iald (n := 6) hE hG (kd_lt km12 (by decide)) (ce_int km12 (by decide) (by decide)) hi1 dX10_cutOne_8 ?_
  refine lv_topi (fun x2 ex2 => ?_)
  have hw := hw x2 ex2
  refine lv_istore_n (lv' := [(1, .int x2), (0, .ref (X.2.1 0))]) hx hb dX10_cutOne_9 rfl hl (by decide) rfl (fun ls hl => ?_)
  refine lv_aload_n hx hb dX10_cutOne_10 rfl (lv_at hl 1 rfl) ?_
  refine g_get (k := 18) hE hG (kd_lt km0 (by decide)) (ce_10 km0) rfl (by decide +kernel) (by decide) (by decide +kernel) rfl rfl dX10_cutOne_11 ?_
  refine lv_iload_n hx hb dX10_cutOne_14 rfl (lv_at hl 0 rfl) ?_
  obtain ⟨hi3, hw⟩ := hw
  refine g_iald (n := 6) hE hG (kd_lt km14 (by decide)) (ce_int km14 (by decide) (by decide)) hi3 dX10_cutOne_15 ?_
  refine lv_topi (fun x4 ex4 => ?_)
  have hw := hw x4 ex4
  refine lv_istore_n (lv' := [(2, .int x4), (1, .int x2), (0, .ref (X.2.1 0))]) hx hb dX10_cutOne_16 rfl hl (by decide) rfl (fun ls hl => ?_)
  refine lv_aload_n hx hb dX10_cutOne_17 rfl (lv_at hl 2 rfl) ?_
  refine g_get (k := 17) hE hG (kd_lt km0 (by decide)) (ce_10 km0) rfl (by decide +kernel) (by decide) (by decide +kernel) rfl rfl dX10_cutOne_18 ?_
  refine lv_iload_n hx hb dX10_cutOne_21 rfl (lv_at hl 1 rfl) ?_
  obtain ⟨hi5, hw⟩ := hw
  refine g_iald (n := 6) hE hG (kd_lt km13 (by decide)) (ce_int km13 (by decide) (by decide)) hi5 dX10_cutOne_22 ?_
  refine lv_topi (fun x6 ex6 => ?_)
  have hw := hw x6 ex6
  refine lv_istore_n (lv' := [(3, .int x6), (2, .int x4), (1, .int x2), (0, .ref (X.2.1 0))]) hx hb dX10_cutOne_23 rfl hl (by decide) rfl (fun ls hl => ?_)
  refine lv_aload_n hx hb dX10_cutOne_24 rfl (lv_at hl 3 rfl) ?_
  refine g_get (k := 21) hE hG (kd_lt km0 (by decide)) (ce_10 km0) rfl (by decide +kernel) (by decide) (by decide +kernel) rfl rfl dX10_cutOne_25 ?_
  refine lv_iload_n hx hb dX10_cutOne_28 rfl (lv_at hl 1 rfl) ?_
  refine lv_dup2_11 hx hb dX10_cutOne_29 rfl rfl ?_
  obtain ⟨hi7, hw⟩ := hw
  refine g_iald (n := 30) hE hG (kd_lt km17 (by decide)) (ce_int km17 (by decide) (by decide)) hi7 dX10_cutOne_30 ?_
  refine lv_iconst (v := 1) hx hb dX10_cutOne_31 (by decide) ?_
  refine lv_iadd hx hb dX10_cutOne_32 ?_
  obtain ⟨hi8, hw⟩ := hw
  refine g_iast (n := 30) hE hG (kd_lt km17 (by decide)) (fun _ => ce_int km17 (by decide) (by decide)) hi8 dX10_cutOne_33 (fun σ9 H locs eσ9 hG => ?_)
  have hw := hw σ9 eσ9
  refine lv_aload_n hx hb dX10_cutOne_34 rfl (lv_at hl 3 rfl) ?_
  refine g_get (k := 22) hE hG (kd_lt km0 (by decide)) (ce_10 km0) rfl (by decide +kernel) (by decide) (by decide +kernel) rfl rfl dX10_cutOne_35 ?_
  refine lv_iload_n hx hb dX10_cutOne_38 rfl (lv_at hl 1 rfl) ?_
  refine lv_dup2_11 hx hb dX10_cutOne_39 rfl rfl ?_
  obtain ⟨hi10, hw⟩ := hw
  refine g_iald (n := 30) hE hG (kd_lt km18 (by decide)) (ce_int km18 (by decide) (by decide)) hi10 dX10_cutOne_40 ?_
  refine lv_iconst (v := 1) hx hb dX10_cutOne_41 (by decide) ?_
  refine lv_iadd hx hb dX10_cutOne_42 ?_
  obtain ⟨hi11, hw⟩ := hw
  refine g_iast (n := 30) hE hG (kd_lt km18 (by decide)) (fun _ => ce_int km18 (by decide) (by decide)) hi11 dX10_cutOne_43 (fun σ12 H locs eσ12 hG => ?_)
  have hw := hw σ12 eσ12
  refine lv_aload_n hx hb dX10_cutOne_44 rfl (lv_at hl 3 rfl) ?_
  refine g_get (k := 32) hE hG (kd_lt km0 (by decide)) (ce_10 km0) rfl (by decide +kernel) (by decide) (by decide +kernel) rfl rfl dX10_cutOne_45 ?_
  refine lv_topi (fun x13 ex13 => ?_)
  have hw := hw x13 ex13
  refine lv_istore (lv' := [(4, .int x13), (3, .int x6), (2, .int x4), (1, .int x2), (0, .ref (X.2.1 0))]) hx hb dX10_cutOne_48 hl (by decide) rfl (fun ls hl => ?_)
  refine lv_aload_n hx hb dX10_cutOne_50 rfl (lv_at hl 4 rfl) ?_
  refine g_get (k := 33) hE hG (kd_lt km0 (by decide)) (ce_10 km0) rfl (by decide +kernel) (by decide) (by decide +kernel) rfl rfl dX10_cutOne_51 ?_
  refine lv_iload hx hb dX10_cutOne_54 (lv_at hl 0 rfl) ?_
  refine lv_aload_n hx hb dX10_cutOne_56 rfl (lv_at hl 4 rfl) ?_
  refine g_get (k := 31) hE hG (kd_lt km0 (by decide)) (ce_10 km0) rfl (by decide +kernel) (by decide) (by decide +kernel) rfl rfl dX10_cutOne_57 ?_
  obtain ⟨hi14, hw⟩ := hw
  refine g_iast (n := 12) hE hG (kd_lt km22 (by decide)) (fun _ => ce_int km22 (by decide) (by decide)) hi14 dX10_cutOne_60 (fun σ15 H locs eσ15 hG => ?_)
  have hw := hw σ15 eσ15
  refine lv_aload_n hx hb dX10_cutOne_61 rfl (lv_at hl 4 rfl) ?_
  refine g_get (k := 34) hE hG (kd_lt km0 (by decide)) (ce_10 km0) rfl (by decide +kernel) (by decide) (by decide +kernel) rfl rfl dX10_cutOne_62 ?_
  refine lv_iload hx hb dX10_cutOne_65 (lv_at hl 0 rfl) ?_
  refine lv_iload_n hx hb dX10_cutOne_67 rfl (lv_at hl 3 rfl) ?_
  obtain ⟨hi16, hw⟩ := hw
  refine g_iast (n := 12) hE hG (kd_lt km23 (by decide)) (fun _ => ce_int km23 (by decide) (by decide)) hi16 dX10_cutOne_68 (fun σ17 H locs eσ17 hG => ?_)
  have hw := hw σ17 eσ17
  refine lv_aload_n hx hb dX10_cutOne_69 rfl (lv_at hl 4 rfl) ?_
  refine g_get (k := 35) hE hG (kd_lt km0 (by decide)) (ce_10 km0) rfl (by decide +kernel) (by decide) (by decide +kernel) rfl rfl dX10_cutOne_70 ?_
  refine lv_iload hx hb dX10_cutOne_73 (lv_at hl 0 rfl) ?_
  refine lv_iload_n hx hb dX10_cutOne_75 rfl (lv_at hl 2 rfl) ?_
  obtain ⟨hi18, hw⟩ := hw
  refine g_iast (n := 12) hE hG (kd_lt km24 (by decide)) (fun _ => ce_int km24 (by decide) (by decide)) hi18 dX10_cutOne_76 (fun σ19 H locs eσ19 hG => ?_)
  have hw := hw σ19 eσ19
  refine lv_aload_n hx hb dX10_cutOne_77 rfl (lv_at hl 4 rfl) ?_
  refine g_get (k := 36) hE hG (kd_lt km0 (by decide)) (ce_10 km0) rfl (by decide +kernel) (by decide) (by decide +kernel) rfl rfl dX10_cutOne_78 ?_
  refine lv_iload hx hb dX10_cutOne_81 (lv_at hl 0 rfl) ?_
  refine lv_iload_n hx hb dX10_cutOne_83 rfl (lv_at hl 1 rfl) ?_
  obtain ⟨hi20, hw⟩ := hw
  refine g_iast (n := 12) hE hG (kd_lt km25 (by decide)) (fun _ => ce_int km25 (by decide) (by decide)) hi20 dX10_cutOne_84 (fun σ21 H locs eσ21 hG => ?_)
  have hw := hw σ21 eσ21
  refine lv_aload_n hx hb dX10_cutOne_85 rfl (lv_at hl 4 rfl) ?_
  refine g_get (k := 37) hE hG (kd_lt km0 (by decide)) (ce_10 km0) rfl (by decide +kernel) (by decide) (by decide +kernel) rfl rfl dX10_cutOne_86 ?_
  refine lv_iload hx hb dX10_cutOne_89 (lv_at hl 0 rfl) ?_
  refine lv_aload_n hx hb dX10_cutOne_91 rfl (lv_at hl 4 rfl) ?_
  refine g_get (k := 26) hE hG (kd_lt km0 (by decide)) (ce_10 km0) rfl (by decide +kernel) (by decide) (by decide +kernel) rfl rfl dX10_cutOne_92 ?_
  refine lv_aload_n hx hb dX10_cutOne_95 rfl (lv_at hl 4 rfl) ?_
  refine g_get (k := 27) hE hG (kd_lt km0 (by decide)) (ce_10 km0) rfl (by decide +kernel) (by decide) (by decide +kernel) rfl rfl dX10_cutOne_96 ?_
  refine lv_iadd hx hb dX10_cutOne_99 ?_
  refine lv_aload_n hx hb dX10_cutOne_100 rfl (lv_at hl 4 rfl) ?_
  refine g_get (k := 19) hE hG (kd_lt km0 (by decide)) (ce_10 km0) rfl (by decide +kernel) (by decide) (by decide +kernel) rfl rfl dX10_cutOne_101 ?_
  refine lv_iload_n hx hb dX10_cutOne_104 rfl (lv_at hl 1 rfl) ?_
  obtain ⟨hi22, hw⟩ := hw
  refine g_iald (n := 4) hE hG (kd_lt km15 (by decide)) (ce_int km15 (by decide) (by decide)) hi22 dX10_cutOne_105 ?_
  refine lv_iadd hx hb dX10_cutOne_106 ?_
  refine lv_sipush (v := (500)) hx hb dX10_cutOne_107 (by decide) ?_
  refine lv_isub hx hb dX10_cutOne_110 ?_
  obtain ⟨hi23, hw⟩ := hw
  refine g_iast (n := 12) hE hG (kd_lt km26 (by decide)) (fun _ => ce_int km26 (by decide) (by decide)) hi23 dX10_cutOne_111 (fun σ24 H locs eσ24 hG => ?_)
  have hw := hw σ24 eσ24
  refine lv_aload_n hx hb dX10_cutOne_112 rfl (lv_at hl 4 rfl) ?_
  refine g_get (k := 38) hE hG (kd_lt km0 (by decide)) (ce_10 km0) rfl (by decide +kernel) (by decide) (by decide +kernel) rfl rfl dX10_cutOne_113 ?_
  refine lv_iload hx hb dX10_cutOne_116 (lv_at hl 0 rfl) ?_
  refine lv_aload_n hx hb dX10_cutOne_118 rfl (lv_at hl 4 rfl) ?_
  refine g_get (k := 19) hE hG (kd_lt km0 (by decide)) (ce_10 km0) rfl (by decide +kernel) (by decide) (by decide +kernel) rfl rfl dX10_cutOne_119 ?_
  refine lv_iload_n hx hb dX10_cutOne_122 rfl (lv_at hl 1 rfl) ?_
  obtain ⟨hi25, hw⟩ := hw
  refine g_iald (n := 4) hE hG (kd_lt km15 (by decide)) (ce_int km15 (by decide) (by decide)) hi25 dX10_cutOne_123 ?_
  obtain ⟨hi26, hw⟩ := hw
  refine g_iast (n := 12) hE hG (kd_lt km27 (by decide)) (fun _ => ce_int km27 (by decide) (by decide)) hi26 dX10_cutOne_124 (fun σ27 H locs eσ27 hG => ?_)
  have hw := hw σ27 eσ27
  refine lv_aload_n hx hb dX10_cutOne_125 rfl (lv_at hl 4 rfl) ?_
  refine g_get (k := 39) hE hG (kd_lt km0 (by decide)) (ce_10 km0) rfl (by decide +kernel) (by decide) (by decide +kernel) rfl rfl dX10_cutOne_126 ?_
  refine lv_iload hx hb dX10_cutOne_129 (lv_at hl 0 rfl) ?_
  refine lv_aload_n hx hb dX10_cutOne_131 rfl (lv_at hl 4 rfl) ?_
  refine g_get (k := 30) hE hG (kd_lt km0 (by decide)) (ce_10 km0) rfl (by decide +kernel) (by decide) (by decide +kernel) rfl rfl dX10_cutOne_132 ?_
  refine lv_if_le (tgt := 142) hx hb dX10_cutOne_135 (by decide) (fun hc28 => ?_) (fun hc28 => ?_)
  · have hw := hw.1 hc28
    refine lv_aload_n hx hb dX10_cutOne_142 rfl (lv_at hl 4 rfl) ?_
    refine g_get (k := 29) hE hG (kd_lt km0 (by decide)) (ce_10 km0) rfl (by decide +kernel) (by decide) (by decide +kernel) rfl rfl dX10_cutOne_143 ?_
    refine lv_aload_n hx hb dX10_cutOne_146 rfl (lv_at hl 4 rfl) ?_
    refine g_get (k := 20) hE hG (kd_lt km0 (by decide)) (ce_10 km0) rfl (by decide +kernel) (by decide) (by decide +kernel) rfl rfl dX10_cutOne_147 ?_
    refine lv_iload_n hx hb dX10_cutOne_150 rfl (lv_at hl 1 rfl) ?_
    obtain ⟨hi29, hw⟩ := hw
    refine g_iald (n := 4) hE hG (kd_lt km16 (by decide)) (ce_int km16 (by decide) (by decide)) hi29 dX10_cutOne_151 ?_
    refine lv_icmp_eq (tgt := 159) hx hb dX10_cutOne_152 (by decide) (fun hc30 => ?_) (fun hc30 => ?_)
    · have hw := hw.1 hc30
      refine lv_aload_n hx hb dX10_cutOne_159 rfl (lv_at hl 4 rfl) ?_
      refine g_get (k := 22) hE hG (kd_lt km0 (by decide)) (ce_10 km0) rfl (by decide +kernel) (by decide) (by decide +kernel) rfl rfl dX10_cutOne_160 ?_
      refine lv_iload_n hx hb dX10_cutOne_163 rfl (lv_at hl 2 rfl) ?_
      obtain ⟨hi31, hw⟩ := hw
      refine g_iald (n := 30) hE hG (kd_lt km18 (by decide)) (ce_int km18 (by decide) (by decide)) hi31 dX10_cutOne_164 ?_
      refine lv_bipush (v := (8)) hx hb dX10_cutOne_165 (by decide) ?_
      refine lv_icmp_le (tgt := 174) hx hb dX10_cutOne_167 (by decide) (fun hc32 => ?_) (fun hc32 => ?_)
      · have hw := hw.1 hc32
        refine lv_aload_n hx hb dX10_cutOne_174 rfl (lv_at hl 4 rfl) ?_
        refine g_get (k := 21) hE hG (kd_lt km0 (by decide)) (ce_10 km0) rfl (by decide +kernel) (by decide) (by decide +kernel) rfl rfl dX10_cutOne_175 ?_
        refine lv_iload_n hx hb dX10_cutOne_178 rfl (lv_at hl 2 rfl) ?_
        obtain ⟨hi33, hw⟩ := hw
        refine g_iald (n := 30) hE hG (kd_lt km17 (by decide)) (ce_int km17 (by decide) (by decide)) hi33 dX10_cutOne_179 ?_
        refine lv_aload_n hx hb dX10_cutOne_180 rfl (lv_at hl 4 rfl) ?_
        refine g_get (k := 28) hE hG (kd_lt km0 (by decide)) (ce_10 km0) rfl (by decide +kernel) (by decide) (by decide +kernel) rfl rfl dX10_cutOne_181 ?_
        refine lv_icmp_le (tgt := 191) hx hb dX10_cutOne_184 (by decide) (fun hc34 => ?_) (fun hc34 => ?_)
        · have hw := hw.1 hc34
          refine lv_iconst (v := 0) hx hb dX10_cutOne_191 (by decide) ?_
          exact b_X10_cutOne_192 hE hr hlk hw hG (lv_sub hl [4] rfl)
        · have hw := hw.2 hc34
          refine lv_iconst (v := 4) hx hb dX10_cutOne_187 (by decide) ?_
          refine lv_goto (tgt := 192) hx hb dX10_cutOne_188 (by decide) ?_
          exact b_X10_cutOne_192 hE hr hlk hw hG (lv_sub hl [4] rfl)
      · have hw := hw.2 hc32
        refine lv_iconst (v := 3) hx hb dX10_cutOne_170 (by decide) ?_
        refine lv_goto (tgt := 192) hx hb dX10_cutOne_171 (by decide) ?_
        exact b_X10_cutOne_192 hE hr hlk hw hG (lv_sub hl [4] rfl)
    · have hw := hw.2 hc30
      refine lv_iconst (v := 2) hx hb dX10_cutOne_155 (by decide) ?_
      refine lv_goto (tgt := 192) hx hb dX10_cutOne_156 (by decide) ?_
      exact b_X10_cutOne_192 hE hr hlk hw hG (lv_sub hl [4] rfl)
  · have hw := hw.2 hc28
    refine lv_iconst (v := 1) hx hb dX10_cutOne_138 (by decide) ?_
    refine lv_goto (tgt := 192) hx hb dX10_cutOne_139 (by decide) ?_
    exact b_X10_cutOne_192 hE hr hlk hw hG (lv_sub hl [4] rfl)

set_option maxHeartbeats 4000000 in
set_option maxRecDepth 100000 in
theorem b_X10_cut_26 {p : Program} {l : Launch} {e : Env} {s : State} {m : MethodId} {args : Array Value} {below : List Frame} {meth : Method} {c : Code} {X : wX} {A : Nat → Prop} (hE : eV p m c cX10_cut 4 s args wsX10_cut RX10 X) (hr : meth.sig.returnType = (some .int)) (hlk : meth.locks = false) {Q : Int32 → St → Prop} {v1 : Int32} : ∀ (n : Nat) (σ : St) (v2 : Int32) (v3 : Int32) (H : Heap) (locs : List Loc) (ls : Array Slot), wl_X10_cut_26 Q v1 n σ v2 v3 → gW X kmL A s.heap σ H locs → lv_has ls 4 [(0, .ref (X.2.1 0)), (1, .int v1), (2, .int v2), (3, .int v3)] → W p l e rm_X10_cut s m args below meth c H locs 0 0 (zI X kmL below args s A Q) (F0 m 26 ls []) := by
  have hx := hE.1.1
  have hb := hE.1.2.1
  intro n
  induction n with
  | zero =>
    intro σ v2 v3 H locs ls hw
    exact False.elim hw
  | succ n ih =>
    intro σ v2 v3 H locs ls hw hG hl
    have hw : wB_X10_cut_26 Q (wl_X10_cut_26 Q v1 n) v1 σ v2 v3 := hw
    unfold wB_X10_cut_26 at hw
    refine lv_iload_n hx hb dX10_cut_26 rfl (lv_at hl 3 rfl) ?_
    refine lv_iload_n hx hb dX10_cut_27 rfl (lv_at hl 1 rfl) ?_
    refine lv_icmp_ge (tgt := 57) hx hb dX10_cut_28 (by decide) (fun hc5 => ?_) (fun hc5 => ?_)
    · have hw := hw.1 hc5
      refine lv_iload_n hx hb dX10_cut_57 rfl (lv_at hl 2 rfl) ?_
      exact g_iret hE hG hr hlk dX10_cut_58 hw
    · have hw := hw.2 hc5
      refine lv_aload_n hx hb dX10_cut_31 rfl (lv_at hl 0 rfl) ?_
      refine g_get (k := 32) hE hG (kd_lt km0 (by decide)) (ce_10 km0) rfl (by decide +kernel) (by decide) (by decide +kernel) rfl rfl dX10_cut_32 ?_
      refine lv_bipush (v := (12)) hx hb dX10_cut_35 (by decide) ?_
      refine lv_icmp_ne (tgt := 47) hx hb dX10_cut_37 (by decide) (fun hc6 => ?_) (fun hc6 => ?_)
      · have hw := hw.1 hc6
        refine lv_aload_n hx hb dX10_cut_47 rfl (lv_at hl 0 rfl) ?_
        refine g_callv hG (g_runV (rm := rm_X10_cutOne) (As := []) (rest := []) (n := 0) hE hG (m_X10_cutOne l X hw _) gX10_cut_X10_cutOne rfl rfl rfl (by decide +kernel) ⟨Nat.le_of_ble_eq_true rfl, Nat.le_of_ble_eq_true rfl⟩ (kd_lt km0 (by decide)) (ce_10 km0) rfl rfl rfl hl.1 (Nat.le_of_ble_eq_true rfl) dX10_cut_48 ⟨Nat.zero_le _, Nat.zero_le _⟩) (fun σ8 H locs hw hG => ?_)
        obtain ⟨x9, ex9⟩ : ∃ z : Int32, z = v3 + (1 : Int32) := ⟨_, rfl⟩
        have hw := hw x9 ex9
        refine lv_iinc (v := x9) (lv' := [(3, .int x9), (0, .ref (X.2.1 0)), (1, .int v1), (2, .int v2)]) hx hb dX10_cut_51 hl (k := 3) rfl (by rw [ex9]; rfl) (by decide) rfl (fun ls hl => ?_)
        refine lv_goto (tgt := 26) hx hb dX10_cut_54 (by decide) ?_
        exact ih _ _ _ _ _ _ hw hG (lv_sub hl [1, 2, 3, 0] rfl)
      · have hw := hw.2 hc6
        refine lv_aload_n hx hb dX10_cut_40 rfl (lv_at hl 0 rfl) ?_
        refine g_callv hG (g_runV (rm := rm_X10_comeOff) (As := []) (rest := []) (n := 0) hE hG (m_X10_comeOff l X hw _) gX10_cut_X10_comeOff rfl rfl rfl (by decide +kernel) ⟨Nat.le_of_ble_eq_true rfl, Nat.le_of_ble_eq_true rfl⟩ (kd_lt km0 (by decide)) (ce_10 km0) rfl rfl rfl hl.1 (Nat.le_of_ble_eq_true rfl) dX10_cut_41 ⟨Nat.zero_le _, Nat.zero_le _⟩) (fun σ11 H locs hw hG => ?_)
        obtain ⟨x12, ex12⟩ : ∃ z : Int32, z = v2 + (1 : Int32) := ⟨_, rfl⟩
        have hw := hw x12 ex12
        refine lv_iinc (v := x12) (lv' := [(2, .int x12), (0, .ref (X.2.1 0)), (1, .int v1), (3, .int v3)]) hx hb dX10_cut_44 hl (k := 2) rfl (by rw [ex12]; rfl) (by decide) rfl (fun ls hl => ?_)
        refine lv_aload_n hx hb dX10_cut_47 rfl (lv_at hl 1 rfl) ?_
        refine g_callv hG (g_runV (rm := rm_X10_cutOne) (As := []) (rest := []) (n := 0) hE hG (m_X10_cutOne l X hw _) gX10_cut_X10_cutOne rfl rfl rfl (by decide +kernel) ⟨Nat.le_of_ble_eq_true rfl, Nat.le_of_ble_eq_true rfl⟩ (kd_lt km0 (by decide)) (ce_10 km0) rfl rfl rfl hl.1 (Nat.le_of_ble_eq_true rfl) dX10_cut_48 ⟨Nat.zero_le _, Nat.zero_le _⟩) (fun σ14 H locs hw hG => ?_)
        obtain ⟨x15, ex15⟩ : ∃ z : Int32, z = v3 + (1 : Int32) := ⟨_, rfl⟩
        have hw := hw x15 ex15
        refine lv_iinc (v := x15) (lv' := [(3, .int x15), (2, .int x12), (0, .ref (X.2.1 0)), (1, .int v1)]) hx hb dX10_cut_51 hl (k := 3) rfl (by rw [ex15]; rfl) (by decide) rfl (fun ls hl => ?_)
        refine lv_goto (tgt := 26) hx hb dX10_cut_54 (by decide) ?_
        exact ih _ _ _ _ _ _ hw hG (lv_sub hl [2, 3, 1, 0] rfl)

set_option maxHeartbeats 4000000 in
set_option maxRecDepth 100000 in
theorem m_X10_cut (l : Launch) (X : wX) {Q : Int32 → St → Prop} {v1 : Int32} {σ : St} (hw : wp_X10_cut Q v1 σ) : mI X kmL l yX10_cut wsX10_cut rm_X10_cut [.ref (X.2.1 0), .int v1] σ Q := by
  refine mI.of (cc := cX10_cut) (maxL := 4) (ret := (some .int)) (by decide +kernel) rfl (Nat.le_of_ble_eq_true rfl) ?_
  intro A p e s m args below meth c ls hE hr hlk hl hG
  have hx := hE.1.1
  have hb := hE.1.2.1
  unfold wp_X10_cut at hw
  have hl : lv_has ls 4 [(0, .ref (X.2.1 0)), (1, .int v1)] := hl
  refine lv_iload_n hx hb dX10_cut_0 rfl (lv_at hl 1 rfl) ?_
  refine lv_iconst (v := 1) hx hb dX10_cut_1 (by decide) ?_
  refine lv_bipush (v := (100)) hx hb dX10_cut_2 (by decide) ?_
  refine g_calli hG (g_runS (rm := rm_X10_in) (As := [.int v1, .int (1 : Int32), .int (100 : Int32)]) (rest := []) (n := 3) hE hG (m_X10_in l X hw _) gX10_cut_X10_in rfl rfl rfl (by decide +kernel) ⟨Nat.le_of_ble_eq_true rfl, Nat.le_of_ble_eq_true rfl⟩ rfl hl.1 (Nat.le_of_ble_eq_true rfl) dX10_cut_4 ⟨Nat.zero_le _, Nat.zero_le _⟩) (fun r1 σ2 H locs hw hG => ?_)
  refine lv_if_ne (tgt := 12) hx hb dX10_cut_7 (by decide) (fun hc3 => ?_) (fun hc3 => ?_)
  · have hw := hw.1 hc3
    refine lv_aload_n hx hb dX10_cut_12 rfl (lv_at hl 0 rfl) ?_
    refine g_get (k := 14) hE hG (kd_lt km0 (by decide)) (ce_10 km0) rfl (by decide +kernel) (by decide) (by decide +kernel) rfl rfl dX10_cut_13 ?_
    refine lv_if_ne (tgt := 22) hx hb dX10_cut_16 (by decide) (fun hc4 => ?_) (fun hc4 => ?_)
    · have hw := hw.1 hc4
      refine lv_iconst (v := 0) hx hb dX10_cut_22 (by decide) ?_
      refine lv_istore_n (lv' := [(2, .int (0 : Int32)), (0, .ref (X.2.1 0)), (1, .int v1)]) hx hb dX10_cut_23 rfl hl (by decide) rfl (fun ls hl => ?_)
      refine lv_iconst (v := 0) hx hb dX10_cut_24 (by decide) ?_
      refine lv_istore_n (lv' := [(3, .int (0 : Int32)), (2, .int (0 : Int32)), (0, .ref (X.2.1 0)), (1, .int v1)]) hx hb dX10_cut_25 rfl hl (by decide) rfl (fun ls hl => ?_)
      obtain ⟨n, hw⟩ := hw
      exact b_X10_cut_26 hE hr hlk n _ _ _ _ _ _ hw hG (lv_sub hl [2, 3, 1, 0] rfl)
    · have hw := hw.2 hc4
      refine lv_bipush (v := (-4)) hx hb dX10_cut_19 (by decide) ?_
      exact g_iret hE hG hr hlk dX10_cut_21 hw
  · have hw := hw.2 hc3
    refine lv_iconst (v := (-1)) hx hb dX10_cut_10 (by decide) ?_
    exact g_iret hE hG hr hlk dX10_cut_11 hw

set_option maxHeartbeats 4000000 in
set_option maxRecDepth 100000 in
theorem b_X10_drain_7 {p : Program} {l : Launch} {e : Env} {s : State} {m : MethodId} {args : Array Value} {below : List Frame} {meth : Method} {c : Code} {X : wX} {A : Nat → Prop} (hE : eV p m c cX10_drain 3 s args wsX10_drain RX10 X) (hr : meth.sig.returnType = (some .int)) (hlk : meth.locks = false) {Q : Int32 → St → Prop} {v1 : Int32} : ∀ (n : Nat) (σ : St) (v2 : Int32) (H : Heap) (locs : List Loc) (ls : Array Slot), wl_X10_drain_7 Q v1 n σ v2 → gW X kmL A s.heap σ H locs → lv_has ls 3 [(0, .ref (X.2.1 0)), (1, .int v1), (2, .int v2)] → W p l e rm_X10_drain s m args below meth c H locs 0 0 (zI X kmL below args s A Q) (F0 m 7 ls []) := by
  have hx := hE.1.1
  have hb := hE.1.2.1
  intro n
  induction n with
  | zero =>
    intro σ v2 H locs ls hw
    exact False.elim hw
  | succ n ih =>
    intro σ v2 H locs ls hw hG hl
    have hw : wB_X10_drain_7 Q (wl_X10_drain_7 Q v1 n) v1 σ v2 := hw
    unfold wB_X10_drain_7 at hw
    refine lv_iload_n hx hb dX10_drain_7 rfl (lv_at hl 2 rfl) ?_
    refine lv_iload_n hx hb dX10_drain_8 rfl (lv_at hl 1 rfl) ?_
    refine lv_icmp_ge (tgt := 22) hx hb dX10_drain_9 (by decide) (fun hc2 => ?_) (fun hc2 => ?_)
    · have hw := hw.1 hc2
      refine lv_iload_n hx hb dX10_drain_22 rfl (lv_at hl 1 rfl) ?_
      exact g_iret hE hG hr hlk dX10_drain_23 hw
    · have hw := hw.2 hc2
      refine lv_aload_n hx hb dX10_drain_12 rfl (lv_at hl 0 rfl) ?_
      refine g_callv hG (g_runV (rm := rm_X10_comeOff) (As := []) (rest := []) (n := 0) hE hG (m_X10_comeOff l X hw _) gX10_drain_X10_comeOff rfl rfl rfl (by decide +kernel) ⟨Nat.le_of_ble_eq_true rfl, Nat.le_of_ble_eq_true rfl⟩ (kd_lt km0 (by decide)) (ce_10 km0) rfl rfl rfl hl.1 (Nat.le_of_ble_eq_true rfl) dX10_drain_13 ⟨Nat.zero_le _, Nat.zero_le _⟩) (fun σ4 H locs hw hG => ?_)
      obtain ⟨x5, ex5⟩ : ∃ z : Int32, z = v2 + (1 : Int32) := ⟨_, rfl⟩
      have hw := hw x5 ex5
      refine lv_iinc (v := x5) (lv' := [(2, .int x5), (0, .ref (X.2.1 0)), (1, .int v1)]) hx hb dX10_drain_16 hl (k := 2) rfl (by rw [ex5]; rfl) (by decide) rfl (fun ls hl => ?_)
      refine lv_goto (tgt := 7) hx hb dX10_drain_19 (by decide) ?_
      exact ih _ _ _ _ _ hw hG (lv_sub hl [1, 2, 0] rfl)

set_option maxHeartbeats 4000000 in
set_option maxRecDepth 100000 in
theorem m_X10_drain (l : Launch) (X : wX) {Q : Int32 → St → Prop} {σ : St} (hw : wp_X10_drain Q σ) : mI X kmL l yX10_drain wsX10_drain rm_X10_drain [.ref (X.2.1 0)] σ Q := by
  refine mI.of (cc := cX10_drain) (maxL := 3) (ret := (some .int)) (by decide +kernel) rfl (Nat.le_of_ble_eq_true rfl) ?_
  intro A p e s m args below meth c ls hE hr hlk hl hG
  have hx := hE.1.1
  have hb := hE.1.2.1
  unfold wp_X10_drain at hw
  have hl : lv_has ls 3 [(0, .ref (X.2.1 0))] := hl
  refine lv_aload_n hx hb dX10_drain_0 rfl (lv_at hl 0 rfl) ?_
  refine g_get (k := 32) hE hG (kd_lt km0 (by decide)) (ce_10 km0) rfl (by decide +kernel) (by decide) (by decide +kernel) rfl rfl dX10_drain_1 ?_
  refine lv_topi (fun x1 ex1 => ?_)
  have hw := hw x1 ex1
  refine lv_istore_n (lv' := [(1, .int x1), (0, .ref (X.2.1 0))]) hx hb dX10_drain_4 rfl hl (by decide) rfl (fun ls hl => ?_)
  refine lv_iconst (v := 0) hx hb dX10_drain_5 (by decide) ?_
  refine lv_istore_n (lv' := [(2, .int (0 : Int32)), (1, .int x1), (0, .ref (X.2.1 0))]) hx hb dX10_drain_6 rfl hl (by decide) rfl (fun ls hl => ?_)
  obtain ⟨n, hw⟩ := hw
  exact b_X10_drain_7 hE hr hlk n _ _ _ _ _ hw hG (lv_sub hl [2, 1, 0] rfl)

set_option maxHeartbeats 4000000 in
set_option maxRecDepth 100000 in
theorem m_X10_bottle (l : Launch) (X : wX) {Q : Int32 → St → Prop} {v1 : Int32} {v2 : Int32} {σ : St} (hw : wp_X10_bottle Q v1 v2 σ) : mI X kmL l yX10_bottle wsX10_bottle rm_X10_bottle [.ref (X.2.1 0), .int v1, .int v2] σ Q := by
  refine mI.of (cc := cX10_bottle) (maxL := 3) (ret := (some .int)) (by decide +kernel) rfl (Nat.le_of_ble_eq_true rfl) ?_
  intro A p e s m args below meth c ls hE hr hlk hl hG
  have hx := hE.1.1
  have hb := hE.1.2.1
  unfold wp_X10_bottle at hw
  have hl : lv_has ls 3 [(0, .ref (X.2.1 0)), (1, .int v1), (2, .int v2)] := hl
  refine lv_iload_n hx hb dX10_bottle_0 rfl (lv_at hl 1 rfl) ?_
  refine lv_iconst (v := 0) hx hb dX10_bottle_1 (by decide) ?_
  refine lv_aload_n hx hb dX10_bottle_2 rfl (lv_at hl 0 rfl) ?_
  refine g_get (k := 32) hE hG (kd_lt km0 (by decide)) (ce_10 km0) rfl (by decide +kernel) (by decide) (by decide +kernel) rfl rfl dX10_bottle_3 ?_
  refine lv_iconst (v := 1) hx hb dX10_bottle_6 (by decide) ?_
  refine lv_isub hx hb dX10_bottle_7 ?_
  refine g_calli hG (g_runS (rm := rm_X10_in) (As := [.int v1, .int (0 : Int32), .int ((σ 0 32) - (1 : Int32))]) (rest := []) (n := 3) hE hG (m_X10_in l X hw _) gX10_bottle_X10_in rfl rfl rfl (by decide +kernel) ⟨Nat.le_of_ble_eq_true rfl, Nat.le_of_ble_eq_true rfl⟩ rfl hl.1 (Nat.le_of_ble_eq_true rfl) dX10_bottle_8 ⟨Nat.zero_le _, Nat.zero_le _⟩) (fun r1 σ2 H locs hw hG => ?_)
  refine lv_if_ne (tgt := 16) hx hb dX10_bottle_11 (by decide) (fun hc3 => ?_) (fun hc3 => ?_)
  · have hw := hw.1 hc3
    refine lv_iload_n hx hb dX10_bottle_16 rfl (lv_at hl 2 rfl) ?_
    by_cases hs5 : v2 = (0 : Int32)
    · refine lv_tableIn (tgt := 56) hx hb dX10_bottle_17 (by rw [hs5]; decide) (by rw [hs5]; decide) (by rw [hs5]; rfl) (by decide) ?_
      have hw := hw.1 hs5
      refine lv_aload_n hx hb dX10_bottle_56 rfl (lv_at hl 0 rfl) ?_
      refine g_get (k := 33) hE hG (kd_lt km0 (by decide)) (ce_10 km0) rfl (by decide +kernel) (by decide) (by decide +kernel) rfl rfl dX10_bottle_57 ?_
      refine lv_iload_n hx hb dX10_bottle_60 rfl (lv_at hl 1 rfl) ?_
      obtain ⟨hi4, hw⟩ := hw
      refine g_iald (n := 12) hE hG (kd_lt km22 (by decide)) (ce_int km22 (by decide) (by decide)) hi4 dX10_bottle_61 ?_
      exact g_iret hE hG hr hlk dX10_bottle_62 hw
    · skip
      by_cases hs7 : v2 = (1 : Int32)
      · refine lv_tableIn (tgt := 63) hx hb dX10_bottle_17 (by rw [hs7]; decide) (by rw [hs7]; decide) (by rw [hs7]; rfl) (by decide) ?_
        have hw := hw.2.1 hs7
        refine lv_aload_n hx hb dX10_bottle_63 rfl (lv_at hl 0 rfl) ?_
        refine g_get (k := 34) hE hG (kd_lt km0 (by decide)) (ce_10 km0) rfl (by decide +kernel) (by decide) (by decide +kernel) rfl rfl dX10_bottle_64 ?_
        refine lv_iload_n hx hb dX10_bottle_67 rfl (lv_at hl 1 rfl) ?_
        obtain ⟨hi6, hw⟩ := hw
        refine g_iald (n := 12) hE hG (kd_lt km23 (by decide)) (ce_int km23 (by decide) (by decide)) hi6 dX10_bottle_68 ?_
        exact g_iret hE hG hr hlk dX10_bottle_69 hw
      · skip
        by_cases hs9 : v2 = (2 : Int32)
        · refine lv_tableIn (tgt := 70) hx hb dX10_bottle_17 (by rw [hs9]; decide) (by rw [hs9]; decide) (by rw [hs9]; rfl) (by decide) ?_
          have hw := hw.2.2.1 hs9
          refine lv_aload_n hx hb dX10_bottle_70 rfl (lv_at hl 0 rfl) ?_
          refine g_get (k := 35) hE hG (kd_lt km0 (by decide)) (ce_10 km0) rfl (by decide +kernel) (by decide) (by decide +kernel) rfl rfl dX10_bottle_71 ?_
          refine lv_iload_n hx hb dX10_bottle_74 rfl (lv_at hl 1 rfl) ?_
          obtain ⟨hi8, hw⟩ := hw
          refine g_iald (n := 12) hE hG (kd_lt km24 (by decide)) (ce_int km24 (by decide) (by decide)) hi8 dX10_bottle_75 ?_
          exact g_iret hE hG hr hlk dX10_bottle_76 hw
        · skip
          by_cases hs11 : v2 = (3 : Int32)
          · refine lv_tableIn (tgt := 77) hx hb dX10_bottle_17 (by rw [hs11]; decide) (by rw [hs11]; decide) (by rw [hs11]; rfl) (by decide) ?_
            have hw := hw.2.2.2.1 hs11
            refine lv_aload_n hx hb dX10_bottle_77 rfl (lv_at hl 0 rfl) ?_
            refine g_get (k := 36) hE hG (kd_lt km0 (by decide)) (ce_10 km0) rfl (by decide +kernel) (by decide) (by decide +kernel) rfl rfl dX10_bottle_78 ?_
            refine lv_iload_n hx hb dX10_bottle_81 rfl (lv_at hl 1 rfl) ?_
            obtain ⟨hi10, hw⟩ := hw
            refine g_iald (n := 12) hE hG (kd_lt km25 (by decide)) (ce_int km25 (by decide) (by decide)) hi10 dX10_bottle_82 ?_
            exact g_iret hE hG hr hlk dX10_bottle_83 hw
          · skip
            by_cases hs13 : v2 = (4 : Int32)
            · refine lv_tableIn (tgt := 84) hx hb dX10_bottle_17 (by rw [hs13]; decide) (by rw [hs13]; decide) (by rw [hs13]; rfl) (by decide) ?_
              have hw := hw.2.2.2.2.1 hs13
              refine lv_aload_n hx hb dX10_bottle_84 rfl (lv_at hl 0 rfl) ?_
              refine g_get (k := 37) hE hG (kd_lt km0 (by decide)) (ce_10 km0) rfl (by decide +kernel) (by decide) (by decide +kernel) rfl rfl dX10_bottle_85 ?_
              refine lv_iload_n hx hb dX10_bottle_88 rfl (lv_at hl 1 rfl) ?_
              obtain ⟨hi12, hw⟩ := hw
              refine g_iald (n := 12) hE hG (kd_lt km26 (by decide)) (ce_int km26 (by decide) (by decide)) hi12 dX10_bottle_89 ?_
              exact g_iret hE hG hr hlk dX10_bottle_90 hw
            · skip
              by_cases hs16 : v2 = (5 : Int32)
              · refine lv_tableIn (tgt := 91) hx hb dX10_bottle_17 (by rw [hs16]; decide) (by rw [hs16]; decide) (by rw [hs16]; rfl) (by decide) ?_
                have hw := hw.2.2.2.2.2.1 hs16
                refine lv_aload_n hx hb dX10_bottle_91 rfl (lv_at hl 0 rfl) ?_
                refine lv_iload_n hx hb dX10_bottle_92 rfl (lv_at hl 1 rfl) ?_
                refine g_calli hG (g_runV (rm := rm_X10_judgeOf) (As := [.int v1]) (rest := []) (n := 1) hE hG (m_X10_judgeOf l X hw _) gX10_bottle_X10_judgeOf rfl rfl rfl (by decide +kernel) ⟨Nat.le_of_ble_eq_true rfl, Nat.le_of_ble_eq_true rfl⟩ (kd_lt km0 (by decide)) (ce_10 km0) rfl rfl rfl hl.1 (Nat.le_of_ble_eq_true rfl) dX10_bottle_93 ⟨Nat.zero_le _, Nat.zero_le _⟩) (fun r14 σ15 H locs hw hG => ?_)
                exact g_iret hE hG hr hlk dX10_bottle_96 hw
              · skip
                have hw := hw.2.2.2.2.2.2 hs5 hs7 hs9 hs11 hs13 hs16
                have q0 := lv_neT hs5 (a := 0) (by decide)
                have q1 := lv_neT hs7 (a := 1) (by decide)
                have q2 := lv_neT hs9 (a := 2) (by decide)
                have q3 := lv_neT hs11 (a := 3) (by decide)
                have q4 := lv_neT hs13 (a := 4) (by decide)
                have q5 := lv_neT hs16 (a := 5) (by decide)
                refine lv_tableOut (tgt := 97) hx hb dX10_bottle_17 (by omega) (by decide) ?_
                refine lv_iconst (v := (-1)) hx hb dX10_bottle_97 (by decide) ?_
                exact g_iret hE hG hr hlk dX10_bottle_98 hw
  · have hw := hw.2 hc3
    refine lv_iconst (v := (-1)) hx hb dX10_bottle_14 (by decide) ?_
    exact g_iret hE hG hr hlk dX10_bottle_15 hw

set_option maxHeartbeats 4000000 in
set_option maxRecDepth 100000 in
theorem m_X10_many (l : Launch) (X : wX) {Q : Int32 → St → Prop} {v1 : Int32} {σ : St} (hw : wp_X10_many Q v1 σ) : mI X kmL l yX10_many wsX10_many rm_X10_many [.ref (X.2.1 0), .int v1] σ Q := by
  refine mI.of (cc := cX10_many) (maxL := 2) (ret := (some .int)) (by decide +kernel) rfl (Nat.le_of_ble_eq_true rfl) ?_
  intro A p e s m args below meth c ls hE hr hlk hl hG
  have hx := hE.1.1
  have hb := hE.1.2.1
  unfold wp_X10_many at hw
  have hl : lv_has ls 2 [(0, .ref (X.2.1 0)), (1, .int v1)] := hl
  refine lv_iload_n hx hb dX10_many_0 rfl (lv_at hl 1 rfl) ?_
  refine lv_iconst (v := 2) hx hb dX10_many_1 (by decide) ?_
  refine lv_bipush (v := (8)) hx hb dX10_many_2 (by decide) ?_
  refine g_calli hG (g_runS (rm := rm_X10_in) (As := [.int v1, .int (2 : Int32), .int (8 : Int32)]) (rest := []) (n := 3) hE hG (m_X10_in l X hw _) gX10_many_X10_in rfl rfl rfl (by decide +kernel) ⟨Nat.le_of_ble_eq_true rfl, Nat.le_of_ble_eq_true rfl⟩ rfl hl.1 (Nat.le_of_ble_eq_true rfl) dX10_many_4 ⟨Nat.zero_le _, Nat.zero_le _⟩) (fun r1 σ2 H locs hw hG => ?_)
  refine lv_if_eq (tgt := 19) hx hb dX10_many_7 (by decide) (fun hc3 => ?_) (fun hc3 => ?_)
  · have hw := hw.1 hc3
    refine lv_iload_n hx hb dX10_many_19 rfl (lv_at hl 1 rfl) ?_
    by_cases hs4 : v1 = (0 : Int32)
    · refine lv_tableIn (tgt := 100) hx hb dX10_many_20 (by rw [hs4]; decide) (by rw [hs4]; decide) (by rw [hs4]; rfl) (by decide) ?_
      have hw := hw.1 hs4
      refine lv_aload_n hx hb dX10_many_100 rfl (lv_at hl 0 rfl) ?_
      refine g_get (k := 31) hE hG (kd_lt km0 (by decide)) (ce_10 km0) rfl (by decide +kernel) (by decide) (by decide +kernel) rfl rfl dX10_many_101 ?_
      exact g_iret hE hG hr hlk dX10_many_104 hw
    · skip
      by_cases hs5 : v1 = (1 : Int32)
      · refine lv_tableIn (tgt := 105) hx hb dX10_many_20 (by rw [hs5]; decide) (by rw [hs5]; decide) (by rw [hs5]; rfl) (by decide) ?_
        have hw := hw.2.1 hs5
        refine lv_aload_n hx hb dX10_many_105 rfl (lv_at hl 0 rfl) ?_
        refine g_get (k := 32) hE hG (kd_lt km0 (by decide)) (ce_10 km0) rfl (by decide +kernel) (by decide) (by decide +kernel) rfl rfl dX10_many_106 ?_
        exact g_iret hE hG hr hlk dX10_many_109 hw
      · skip
        by_cases hs6 : v1 = (9 : Int32)
        · refine lv_tableIn (tgt := 110) hx hb dX10_many_20 (by rw [hs6]; decide) (by rw [hs6]; decide) (by rw [hs6]; rfl) (by decide) ?_
          have hw := hw.2.2.1 hs6
          refine lv_aload_n hx hb dX10_many_110 rfl (lv_at hl 0 rfl) ?_
          refine g_get (k := 14) hE hG (kd_lt km0 (by decide)) (ce_10 km0) rfl (by decide +kernel) (by decide) (by decide +kernel) rfl rfl dX10_many_111 ?_
          exact g_iret hE hG hr hlk dX10_many_114 hw
        · skip
          by_cases hs7 : v1 = (10 : Int32)
          · refine lv_tableIn (tgt := 115) hx hb dX10_many_20 (by rw [hs7]; decide) (by rw [hs7]; decide) (by rw [hs7]; rfl) (by decide) ?_
            have hw := hw.2.2.2.1 hs7
            refine lv_aload_n hx hb dX10_many_115 rfl (lv_at hl 0 rfl) ?_
            refine g_get (k := 26) hE hG (kd_lt km0 (by decide)) (ce_10 km0) rfl (by decide +kernel) (by decide) (by decide +kernel) rfl rfl dX10_many_116 ?_
            exact g_iret hE hG hr hlk dX10_many_119 hw
          · skip
            by_cases hs10 : v1 = (11 : Int32)
            · refine lv_tableIn (tgt := 120) hx hb dX10_many_20 (by rw [hs10]; decide) (by rw [hs10]; decide) (by rw [hs10]; rfl) (by decide) ?_
              have hw := hw.2.2.2.2.1 hs10
              refine lv_aload_n hx hb dX10_many_120 rfl (lv_at hl 0 rfl) ?_
              refine g_get (k := 14) hE hG (kd_lt km0 (by decide)) (ce_10 km0) rfl (by decide +kernel) (by decide) (by decide +kernel) rfl rfl dX10_many_121 ?_
              refine lv_if_ne (tgt := 131) hx hb dX10_many_124 (by decide) (fun hc8 => ?_) (fun hc8 => ?_)
              · have hw := hw.1 hc8
                refine lv_aload_n hx hb dX10_many_131 rfl (lv_at hl 0 rfl) ?_
                refine g_get (k := 15) hE hG (kd_lt km0 (by decide)) (ce_10 km0) rfl (by decide +kernel) (by decide) (by decide +kernel) rfl rfl dX10_many_132 ?_
                refine lv_aload_n hx hb dX10_many_135 rfl (lv_at hl 0 rfl) ?_
                refine g_get (k := 16) hE hG (kd_lt km0 (by decide)) (ce_10 km0) rfl (by decide +kernel) (by decide) (by decide +kernel) rfl rfl dX10_many_136 ?_
                obtain ⟨hi9, hw⟩ := hw
                refine g_iald (n := 6) hE hG (kd_lt km12 (by decide)) (ce_int km12 (by decide) (by decide)) hi9 dX10_many_139 ?_
                exact g_iret hE hG hr hlk dX10_many_140 hw
              · have hw := hw.2 hc8
                refine lv_iconst (v := (-1)) hx hb dX10_many_127 (by decide) ?_
                refine lv_goto (tgt := 140) hx hb dX10_many_128 (by decide) ?_
                exact g_iret hE hG hr hlk dX10_many_140 hw
            · skip
              by_cases hs11 : v1 = (12 : Int32)
              · refine lv_tableIn (tgt := 141) hx hb dX10_many_20 (by rw [hs11]; decide) (by rw [hs11]; decide) (by rw [hs11]; rfl) (by decide) ?_
                have hw := hw.2.2.2.2.2.1 hs11
                refine lv_aload_n hx hb dX10_many_141 rfl (lv_at hl 0 rfl) ?_
                refine g_get (k := 30) hE hG (kd_lt km0 (by decide)) (ce_10 km0) rfl (by decide +kernel) (by decide) (by decide +kernel) rfl rfl dX10_many_142 ?_
                exact g_iret hE hG hr hlk dX10_many_145 hw
              · skip
                by_cases hs12 : v1 = (13 : Int32)
                · refine lv_tableIn (tgt := 146) hx hb dX10_many_20 (by rw [hs12]; decide) (by rw [hs12]; decide) (by rw [hs12]; rfl) (by decide) ?_
                  have hw := hw.2.2.2.2.2.2.1 hs12
                  refine lv_aload_n hx hb dX10_many_146 rfl (lv_at hl 0 rfl) ?_
                  refine g_get (k := 2) hE hG (kd_lt km0 (by decide)) (ce_10 km0) rfl (by decide +kernel) (by decide) (by decide +kernel) rfl rfl dX10_many_147 ?_
                  exact g_iret hE hG hr hlk dX10_many_150 hw
                · skip
                  by_cases hs13 : v1 = (14 : Int32)
                  · refine lv_tableIn (tgt := 151) hx hb dX10_many_20 (by rw [hs13]; decide) (by rw [hs13]; decide) (by rw [hs13]; rfl) (by decide) ?_
                    have hw := hw.2.2.2.2.2.2.2.1 hs13
                    refine lv_aload_n hx hb dX10_many_151 rfl (lv_at hl 0 rfl) ?_
                    refine g_get (k := 7) hE hG (kd_lt km0 (by decide)) (ce_10 km0) rfl (by decide +kernel) (by decide) (by decide +kernel) rfl rfl dX10_many_152 ?_
                    exact g_iret hE hG hr hlk dX10_many_155 hw
                  · skip
                    by_cases hs14 : v1 = (15 : Int32)
                    · refine lv_tableIn (tgt := 156) hx hb dX10_many_20 (by rw [hs14]; decide) (by rw [hs14]; decide) (by rw [hs14]; rfl) (by decide) ?_
                      have hw := hw.2.2.2.2.2.2.2.2.1 hs14
                      refine lv_aload_n hx hb dX10_many_156 rfl (lv_at hl 0 rfl) ?_
                      refine g_get (k := 29) hE hG (kd_lt km0 (by decide)) (ce_10 km0) rfl (by decide +kernel) (by decide) (by decide +kernel) rfl rfl dX10_many_157 ?_
                      exact g_iret hE hG hr hlk dX10_many_160 hw
                    · skip
                      have hw := hw.2.2.2.2.2.2.2.2.2 hs4 hs5 hs6 hs7 hs10 hs11 hs12 hs13 hs14
                      by_cases hs15 : v1 = (2 : Int32)
                      · refine lv_tableIn (tgt := 161) hx hb dX10_many_20 (by rw [hs15]; decide) (by rw [hs15]; decide) (by rw [hs15]; rfl) (by decide) ?_
                        refine lv_iconst (v := (-1)) hx hb dX10_many_161 (by decide) ?_
                        exact g_iret hE hG hr hlk dX10_many_162 hw
                      · skip
                        by_cases hs16 : v1 = (3 : Int32)
                        · refine lv_tableIn (tgt := 161) hx hb dX10_many_20 (by rw [hs16]; decide) (by rw [hs16]; decide) (by rw [hs16]; rfl) (by decide) ?_
                          refine lv_iconst (v := (-1)) hx hb dX10_many_161 (by decide) ?_
                          exact g_iret hE hG hr hlk dX10_many_162 hw
                        · skip
                          by_cases hs17 : v1 = (4 : Int32)
                          · refine lv_tableIn (tgt := 161) hx hb dX10_many_20 (by rw [hs17]; decide) (by rw [hs17]; decide) (by rw [hs17]; rfl) (by decide) ?_
                            refine lv_iconst (v := (-1)) hx hb dX10_many_161 (by decide) ?_
                            exact g_iret hE hG hr hlk dX10_many_162 hw
                          · skip
                            by_cases hs18 : v1 = (5 : Int32)
                            · refine lv_tableIn (tgt := 161) hx hb dX10_many_20 (by rw [hs18]; decide) (by rw [hs18]; decide) (by rw [hs18]; rfl) (by decide) ?_
                              refine lv_iconst (v := (-1)) hx hb dX10_many_161 (by decide) ?_
                              exact g_iret hE hG hr hlk dX10_many_162 hw
                            · skip
                              by_cases hs19 : v1 = (6 : Int32)
                              · refine lv_tableIn (tgt := 161) hx hb dX10_many_20 (by rw [hs19]; decide) (by rw [hs19]; decide) (by rw [hs19]; rfl) (by decide) ?_
                                refine lv_iconst (v := (-1)) hx hb dX10_many_161 (by decide) ?_
                                exact g_iret hE hG hr hlk dX10_many_162 hw
                              · skip
                                by_cases hs20 : v1 = (7 : Int32)
                                · refine lv_tableIn (tgt := 161) hx hb dX10_many_20 (by rw [hs20]; decide) (by rw [hs20]; decide) (by rw [hs20]; rfl) (by decide) ?_
                                  refine lv_iconst (v := (-1)) hx hb dX10_many_161 (by decide) ?_
                                  exact g_iret hE hG hr hlk dX10_many_162 hw
                                · skip
                                  by_cases hs21 : v1 = (8 : Int32)
                                  · refine lv_tableIn (tgt := 161) hx hb dX10_many_20 (by rw [hs21]; decide) (by rw [hs21]; decide) (by rw [hs21]; rfl) (by decide) ?_
                                    refine lv_iconst (v := (-1)) hx hb dX10_many_161 (by decide) ?_
                                    exact g_iret hE hG hr hlk dX10_many_162 hw
                                  · skip
                                    have q0 := lv_neT hs4 (a := 0) (by decide)
                                    have q1 := lv_neT hs5 (a := 1) (by decide)
                                    have q2 := lv_neT hs6 (a := 9) (by decide)
                                    have q3 := lv_neT hs7 (a := 10) (by decide)
                                    have q4 := lv_neT hs10 (a := 11) (by decide)
                                    have q5 := lv_neT hs11 (a := 12) (by decide)
                                    have q6 := lv_neT hs12 (a := 13) (by decide)
                                    have q7 := lv_neT hs13 (a := 14) (by decide)
                                    have q8 := lv_neT hs14 (a := 15) (by decide)
                                    have q9 := lv_neT hs15 (a := 2) (by decide)
                                    have q10 := lv_neT hs16 (a := 3) (by decide)
                                    have q11 := lv_neT hs17 (a := 4) (by decide)
                                    have q12 := lv_neT hs18 (a := 5) (by decide)
                                    have q13 := lv_neT hs19 (a := 6) (by decide)
                                    have q14 := lv_neT hs20 (a := 7) (by decide)
                                    have q15 := lv_neT hs21 (a := 8) (by decide)
                                    refine lv_tableOut (tgt := 161) hx hb dX10_many_20 (by omega) (by decide) ?_
                                    refine lv_iconst (v := (-1)) hx hb dX10_many_161 (by decide) ?_
                                    exact g_iret hE hG hr hlk dX10_many_162 hw
  · have hw := hw.2 hc3
    refine lv_aload_n hx hb dX10_many_10 rfl (lv_at hl 0 rfl) ?_
    refine g_get (k := 40) hE hG (kd_lt km0 (by decide)) (ce_10 km0) rfl (by decide +kernel) (by decide) (by decide +kernel) rfl rfl dX10_many_11 ?_
    refine lv_iload_n hx hb dX10_many_14 rfl (lv_at hl 1 rfl) ?_
    refine lv_iconst (v := 2) hx hb dX10_many_15 (by decide) ?_
    refine lv_isub hx hb dX10_many_16 ?_
    obtain ⟨hi22, hw⟩ := hw
    refine g_iald (n := 7) hE hG (kd_lt km29 (by decide)) (ce_int km29 (by decide) (by decide)) hi22 dX10_many_17 ?_
    exact g_iret hE hG hr hlk dX10_many_18 hw

