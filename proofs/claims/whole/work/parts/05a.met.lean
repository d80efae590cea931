/-! contracts, by program -/
set_option maxHeartbeats 4000000 in
set_option maxRecDepth 100000 in
theorem m_X0_fromEldest (l : Launch) (X : wX) {Q : Nat → St → Prop} {v1 : Int32} {σ : St} (hw : wp_X0_fromEldest Q v1 σ) : mR X kcL l yX0_fromEldest wsX0_fromEldest rm_X0_fromEldest [.ref (X.2.1 64), .int v1] σ Q := by
  refine mR.of (cc := cX0_fromEldest) (maxL := 2) (ret := (some (.object "GobRow$Bottle"))) (by decide +kernel) rfl (Nat.le_of_ble_eq_true rfl) ?_
  intro A p e s m args below meth c ls hE hr hlk hl hG
  have hx := hE.1.1
  have hb := hE.1.2.1
  unfold wp_X0_fromEldest at hw
  have hl : lv_has ls 2 [(0, .ref (X.2.1 64)), (1, .int v1)] := hl
  refine lv_aload_n hx hb dX0_fromEldest_0 rfl (lv_at hl 0 rfl) ?_
  refine g_get (k := 0) hE hG (kd_lt kc64 (by decide)) (ce_0 kc64) rfl (by decide +kernel) (by decide) (by decide +kernel) rfl rfl dX0_fromEldest_1 ?_
  refine lv_aload_n hx hb dX0_fromEldest_4 rfl (lv_at hl 0 rfl) ?_
  refine g_get (k := 1) hE hG (kd_lt kc64 (by decide)) (ce_0 kc64) rfl (by decide +kernel) (by decide) (by decide +kernel) rfl rfl dX0_fromEldest_5 ?_
  refine lv_iload_n hx hb dX0_fromEldest_8 rfl (lv_at hl 1 rfl) ?_
  refine lv_iadd hx hb dX0_fromEldest_9 ?_
  refine lv_bipush (v := (12)) hx hb dX0_fromEldest_10 (by decide) ?_
  refine lv_irem hx hb dX0_fromEldest_12 (by decide) ?_
  obtain ⟨hi1, hw⟩ := hw
  refine g_aald (q := (66 + (jrem ((σ 64 1) + v1) (12 : Int32)).toNatClampNeg)) (t0 := 5) hE hG (kd_lt kc65 (by decide)) (ce_303 kc65) rfl hi1 rfl dX0_fromEldest_13 ?_
  exact g_aret hE hG hr hlk dX0_fromEldest_14 hw

set_option maxHeartbeats 4000000 in
set_option maxRecDepth 100000 in
theorem m_X0_putLast (l : Launch) (X : wX) {Q : Nat → St → Prop} {σ : St} (hw : wp_X0_putLast Q σ) : mR X kcL l yX0_putLast wsX0_putLast rm_X0_putLast [.ref (X.2.1 64)] σ Q := by
  refine mR.of (cc := cX0_putLast) (maxL := 2) (ret := (some (.object "GobRow$Bottle"))) (by decide +kernel) rfl (Nat.le_of_ble_eq_true rfl) ?_
  intro A p e s m args below meth c ls hE hr hlk hl hG
  have hx := hE.1.1
  have hb := hE.1.2.1
  unfold wp_X0_putLast at hw
  have hl : lv_has ls 2 [(0, .ref (X.2.1 64))] := hl
  refine lv_aload_n hx hb dX0_putLast_0 rfl (lv_at hl 0 rfl) ?_
  refine lv_aload_n hx hb dX0_putLast_1 rfl (lv_at hl 0 rfl) ?_
  refine g_get (k := 2) hE hG (kd_lt kc64 (by decide)) (ce_0 kc64) rfl (by decide +kernel) (by decide) (by decide +kernel) rfl rfl dX0_putLast_2 ?_
  refine g_callrV (rm := rm_X0_fromEldest) (As := [.int (σ 64 2)]) (rest := []) (n := 1) hE hG (m_X0_fromEldest l X hw) gX0_putLast_X0_fromEldest rfl rfl rfl (by decide +kernel) ⟨Nat.le_of_ble_eq_true rfl, Nat.le_of_ble_eq_true rfl⟩ (kd_lt kc64 (by decide)) (ce_0 kc64) rfl rfl rfl hl.1 (Nat.le_of_ble_eq_true rfl) dX0_putLast_5 ⟨Nat.zero_le _, Nat.zero_le _⟩ (fun r1 σ2 H locs hw hG => ?_)
  obtain ⟨hk3, hw⟩ := hw
  refine lv_astore_n (lv' := [(1, .ref (X.2.1 r1)), (0, .ref (X.2.1 64))]) hx hb dX0_putLast_8 rfl hl (by decide) rfl (fun ls hl => ?_)
  refine lv_aload_n hx hb dX0_putLast_9 rfl (lv_at hl 1 rfl) ?_
  refine lv_dup hx hb dX0_putLast_10 rfl ?_
  refine g_get (k := 2) hE hG (kd_lt kc64 (by decide)) (ce_0 kc64) rfl (by decide +kernel) (by decide) (by decide +kernel) rfl rfl dX0_putLast_11 ?_
  refine lv_iconst (v := 1) hx hb dX0_putLast_14 (by decide) ?_
  refine lv_iadd hx hb dX0_putLast_15 ?_
  refine g_put (k := 2) (x := ((σ2 64 2) + (1 : Int32))) (ty := .int) hE hG (kd_lt kc64 (by decide)) (ce_0 kc64) (by rw [ce_0 kc64]; rfl) rfl (by decide +kernel) tyX0 tyX0_ok nmX0 (by decide) (by decide +kernel) rfl rfl (by decide +kernel) rfl rfl (Nat.le_of_ble_eq_true rfl) dX0_putLast_16 (fun σ4 H locs eσ4 hG => ?_)
  have hw := hw σ4 eσ4
  refine lv_aload_n hx hb dX0_putLast_19 rfl (lv_at hl 0 rfl) ?_
  exact g_aret hE hG hr hlk dX0_putLast_20 hw

set_option maxHeartbeats 4000000 in
set_option maxRecDepth 100000 in
theorem m_X0_takeEldest (l : Launch) (X : wX) {Q : Nat → St → Prop} {σ : St} (hw : wp_X0_takeEldest Q σ) : mR X kcL l yX0_takeEldest wsX0_takeEldest rm_X0_takeEldest [.ref (X.2.1 64)] σ Q := by
  refine mR.of (cc := cX0_takeEldest) (maxL := 2) (ret := (some (.object "GobRow$Bottle"))) (by decide +kernel) rfl (Nat.le_of_ble_eq_true rfl) ?_
  intro A p e s m args below meth c ls hE hr hlk hl hG
  have hx := hE.1.1
  have hb := hE.1.2.1
  unfold wp_X0_takeEldest at hw
  have hl : lv_has ls 2 [(0, .ref (X.2.1 64))] := hl
  refine lv_aload_n hx hb dX0_takeEldest_0 rfl (lv_at hl 0 rfl) ?_
  refine g_get (k := 0) hE hG (kd_lt kc64 (by decide)) (ce_0 kc64) rfl (by decide +kernel) (by decide) (by decide +kernel) rfl rfl dX0_takeEldest_1 ?_
  refine lv_aload_n hx hb dX0_takeEldest_4 rfl (lv_at hl 0 rfl) ?_
  refine g_get (k := 1) hE hG (kd_lt kc64 (by decide)) (ce_0 kc64) rfl (by decide +kernel) (by decide) (by decide +kernel) rfl rfl dX0_takeEldest_5 ?_
  obtain ⟨hi1, hw⟩ := hw
  refine g_aald (q := (66 + (σ 64 1).toNatClampNeg)) (t0 := 5) hE hG (kd_lt kc65 (by decide)) (ce_303 kc65) rfl hi1 rfl dX0_takeEldest_8 ?_
  refine lv_astore_n (lv' := [(1, .ref (X.2.1 (66 + (σ 64 1).toNatClampNeg))), (0, .ref (X.2.1 64))]) hx hb dX0_takeEldest_9 rfl hl (by decide) rfl (fun ls hl => ?_)
  refine lv_aload_n hx hb dX0_takeEldest_10 rfl (lv_at hl 1 rfl) ?_
  refine lv_aload_n hx hb dX0_takeEldest_11 rfl (lv_at hl 1 rfl) ?_
  refine g_get (k := 1) hE hG (kd_lt kc64 (by decide)) (ce_0 kc64) rfl (by decide +kernel) (by decide) (by decide +kernel) rfl rfl dX0_takeEldest_12 ?_
  refine lv_iconst (v := 1) hx hb dX0_takeEldest_15 (by decide) ?_
  refine lv_iadd hx hb dX0_takeEldest_16 ?_
  refine lv_bipush (v := (12)) hx hb dX0_takeEldest_17 (by decide) ?_
  refine lv_irem hx hb dX0_takeEldest_19 (by decide) ?_
  refine g_put (k := 1) (x := (jrem ((σ 64 1) + (1 : Int32)) (12 : Int32))) (ty := .int) hE hG (kd_lt kc64 (by decide)) (ce_0 kc64) (by rw [ce_0 kc64]; rfl) rfl (by decide +kernel) tyX0 tyX0_ok nmX0 (by decide) (by decide +kernel) rfl rfl (by decide +kernel) rfl rfl (Nat.le_of_ble_eq_true rfl) dX0_takeEldest_20 (fun σ2 H locs eσ2 hG => ?_)
  have hw := hw σ2 eσ2
  refine lv_aload_n hx hb dX0_takeEldest_23 rfl (lv_at hl 1 rfl) ?_
  refine lv_dup hx hb dX0_takeEldest_24 rfl ?_
  refine g_get (k := 2) hE hG (kd_lt kc64 (by decide)) (ce_0 kc64) rfl (by decide +kernel) (by decide) (by decide +kernel) rfl rfl dX0_takeEldest_25 ?_
  refine lv_iconst (v := 1) hx hb dX0_takeEldest_28 (by decide) ?_
  refine lv_isub hx hb dX0_takeEldest_29 ?_
  refine g_put (k := 2) (x := ((σ2 64 2) - (1 : Int32))) (ty := .int) hE hG (kd_lt kc64 (by decide)) (ce_0 kc64) (by rw [ce_0 kc64]; rfl) rfl (by decide +kernel) tyX0 tyX0_ok nmX0 (by decide) (by decide +kernel) rfl rfl (by decide +kernel) rfl rfl (Nat.le_of_ble_eq_true rfl) dX0_takeEldest_30 (fun σ3 H locs eσ3 hG => ?_)
  have hw := hw σ3 eσ3
  refine lv_aload_n hx hb dX0_takeEldest_33 rfl (lv_at hl 0 rfl) ?_
  exact g_aret hE hG hr hlk dX0_takeEldest_34 hw

set_option maxHeartbeats 4000000 in
set_option maxRecDepth 100000 in
theorem m_X2_change (l : Launch) (X : wX) {Q : St → Prop} {o0 : Nat} {v1 : Int32} {v2 : Int32} {v3 : Int32} {σ : St} (h_o0 : kcL.getD o0 999 = 2) (hw : wp_X2_change Q o0 v1 v2 v3 σ) : mV X kcL l yX2_change wsX2_change rm_X2_change [.ref (X.2.1 o0), .int v1, .int v2, .int v3] σ Q := by
  refine mV.of (cc := cX2_change) (maxL := 4) (ret := none) (by decide +kernel) rfl (Nat.le_of_ble_eq_true rfl) ?_
  intro A p e s m args below meth c ls hE hr hlk hl hG
  have hx := hE.1.1
  have hb := hE.1.2.1
  unfold wp_X2_change at hw
  have hl : lv_has ls 4 [(0, .ref (X.2.1 o0)), (1, .int v1), (2, .int v2), (3, .int v3)] := hl
  refine lv_aload_n hx hb dX2_change_0 rfl (lv_at hl 0 rfl) ?_
  refine g_get (k := 0) hE hG (kd_lt h_o0 (by decide)) (ce_2 h_o0) rfl (by decide +kernel) (by decide) (by decide +kernel) rfl rfl dX2_change_1 ?_
  refine lv_iload_n hx hb dX2_change_4 rfl (lv_at hl 1 rfl) ?_
  refine lv_iload_n hx hb dX2_change_5 rfl (lv_at hl 2 rfl) ?_
  obtain ⟨hi1, hw⟩ := hw
  refine g_iast (n := 8) hE hG (kd_lt (kc_on h_o0) (by decide)) (fun _ => ce_int (kc_on h_o0) (by decide) (by decide)) hi1 dX2_change_6 (fun σ2 H locs eσ2 hG => ?_)
  have hw := hw σ2 eσ2
  refine lv_aload_n hx hb dX2_change_7 rfl (lv_at hl 0 rfl) ?_
  refine g_get (k := 1) hE hG (kd_lt h_o0 (by decide)) (ce_2 h_o0) rfl (by decide +kernel) (by decide) (by decide +kernel) rfl rfl dX2_change_8 ?_
  refine lv_iload_n hx hb dX2_change_11 rfl (lv_at hl 1 rfl) ?_
  refine lv_iload_n hx hb dX2_change_12 rfl (lv_at hl 3 rfl) ?_
  obtain ⟨hi3, hw⟩ := hw
  refine g_iast (n := 8) hE hG (kd_lt (kc_off h_o0) (by decide)) (fun _ => ce_int (kc_off h_o0) (by decide) (by decide)) hi3 dX2_change_13 (fun σ4 H locs eσ4 hG => ?_)
  have hw := hw σ4 eσ4
  exact g_vret hE hG hr hlk dX2_change_14 hw

set_option maxHeartbeats 4000000 in
set_option maxRecDepth 100000 in
theorem m_J9_floorMod_7cf53 (l : Launch) (X : wX) {Q : Int32 → St → Prop} {v0 : Int32} {v1 : Int32} {σ : St} (hw : wp_J9_floorMod_7cf53 Q v0 v1 σ) : mI X kcL l yJ9_floorMod_7cf53 wsJ9_floorMod_7cf53 rm_J9_floorMod_7cf53 [.int v0, .int v1] σ Q := by
  refine mI.of (cc := cJ9_floorMod_7cf53) (maxL := 3) (ret := (some .int)) (by decide +kernel) rfl (Nat.le_of_ble_eq_true rfl) ?_
  intro A p e s m args below meth c ls hE hr hlk hl hG
  have hx := hE.1.1
  have hb := hE.1.2.1
  unfold wp_J9_floorMod_7cf53 at hw
  have hl : lv_has ls 3 [(0, .int v0), (1, .int v1)] := hl
  refine lv_iload_n hx hb dJ9_floorMod_7cf53_0 rfl (lv_at hl 0 rfl) ?_
  refine lv_iload_n hx hb dJ9_floorMod_7cf53_1 rfl (lv_at hl 1 rfl) ?_
  obtain ⟨hz1, hw⟩ := hw
  refine lv_irem hx hb dJ9_floorMod_7cf53_2 hz1 ?_
  refine lv_topi (fun x2 ex2 => ?_)
  have hw := hw x2 ex2
  refine lv_istore_n (lv' := [(2, .int x2), (0, .int v0), (1, .int v1)]) hx hb dJ9_floorMod_7cf53_3 rfl hl (by decide) rfl (fun ls hl => ?_)
  refine lv_iload_n hx hb dJ9_floorMod_7cf53_4 rfl (lv_at hl 1 rfl) ?_
  refine lv_iload_n hx hb dJ9_floorMod_7cf53_5 rfl (lv_at hl 2 rfl) ?_
  refine lv_ixor hx hb dJ9_floorMod_7cf53_6 ?_
  refine lv_if_ge (tgt := 18) hx hb dJ9_floorMod_7cf53_7 (by decide) (fun hc3 => ?_) (fun hc3 => ?_)
  · have hw := hw.1 hc3
    refine lv_iload_n hx hb dJ9_floorMod_7cf53_18 rfl (lv_at hl 0 rfl) ?_
    exact g_iret hE hG hr hlk dJ9_floorMod_7cf53_19 hw
  · have hw := hw.2 hc3
    refine lv_iload_n hx hb dJ9_floorMod_7cf53_10 rfl (lv_at hl 0 rfl) ?_
    refine lv_if_eq (tgt := 18) hx hb dJ9_floorMod_7cf53_11 (by decide) (fun hc4 => ?_) (fun hc4 => ?_)
    · have hw := hw.1 hc4
      refine lv_iload_n hx hb dJ9_floorMod_7cf53_18 rfl (lv_at hl 0 rfl) ?_
      exact g_iret hE hG hr hlk dJ9_floorMod_7cf53_19 hw
    · have hw := hw.2 hc4
      refine lv_iload_n hx hb dJ9_floorMod_7cf53_14 rfl (lv_at hl 0 rfl) ?_
      refine lv_iload_n hx hb dJ9_floorMod_7cf53_15 rfl (lv_at hl 2 rfl) ?_
      refine lv_iadd hx hb dJ9_floorMod_7cf53_16 ?_
      exact g_iret hE hG hr hlk dJ9_floorMod_7cf53_17 hw

set_option maxHeartbeats 4000000 in
set_option maxRecDepth 100000 in
theorem b_X2_shift_2 {p : Program} {l : Launch} {e : Env} {s : State} {m : MethodId} {args : Array Value} {below : List Frame} {meth : Method} {c : Code} {X : wX} {A : Nat → Prop} (hE : eV p m c cX2_shift 3 s args wsX2_shift RX2 X) (hr : meth.sig.returnType = none) (hlk : meth.locks = false) {Q : St → Prop} {o0 : Nat} {v1 : Int32} (h_o0 : kcL.getD o0 999 = 2) : ∀ (n : Nat) (σ : St) (v2 : Int32) (H : Heap) (locs : List Loc) (ls : Array Slot), wl_X2_shift_2 Q o0 v1 n σ v2 → gW X kcL A s.heap σ H locs → lv_has ls 3 [(0, .ref (X.2.1 o0)), (1, .int v1), (2, .int v2)] → W p l e rm_X2_shift s m args below meth c H locs 0 0 (zV X kcL below args s A Q) (F0 m 2 ls []) := by
  have hx := hE.1.1
  have hb := hE.1.2.1
  intro n
  induction n with
  | zero =>
    intro σ v2 H locs ls hw
    exact False.elim hw
  | succ n ih =>
    intro σ v2 H locs ls hw hG hl
    have hw : wB_X2_shift_2 Q (wl_X2_shift_2 Q o0 v1 n) o0 v1 σ v2 := hw
    unfold wB_X2_shift_2 at hw
    refine lv_iload_n hx hb dX2_shift_2 rfl (lv_at hl 2 rfl) ?_
    refine lv_bipush (v := (8)) hx hb dX2_shift_3 (by decide) ?_
    refine lv_icmp_ge (tgt := 54) hx hb dX2_shift_5 (by decide) (fun hc1 => ?_) (fun hc1 => ?_)
    · have hw := hw.1 hc1
      exact g_vret hE hG hr hlk dX2_shift_54 hw
    · have hw := hw.2 hc1
      refine lv_aload_n hx hb dX2_shift_8 rfl (lv_at hl 0 rfl) ?_
      refine g_get (k := 0) hE hG (kd_lt h_o0 (by decide)) (ce_2 h_o0) rfl (by decide +kernel) (by decide) (by decide +kernel) rfl rfl dX2_shift_9 ?_
      refine lv_iload_n hx hb dX2_shift_12 rfl (lv_at hl 2 rfl) ?_
      refine lv_aload_n hx hb dX2_shift_13 rfl (lv_at hl 0 rfl) ?_
      refine g_get (k := 0) hE hG (kd_lt h_o0 (by decide)) (ce_2 h_o0) rfl (by decide +kernel) (by decide) (by decide +kernel) rfl rfl dX2_shift_14 ?_
      refine lv_iload_n hx hb dX2_shift_17 rfl (lv_at hl 2 rfl) ?_
      obtain ⟨hi2, hw⟩ := hw
      refine g_iald (n := 8) hE hG (kd_lt (kc_on h_o0) (by decide)) (ce_int (kc_on h_o0) (by decide) (by decide)) hi2 dX2_shift_18 ?_
      refine lv_iload_n hx hb dX2_shift_19 rfl (lv_at hl 1 rfl) ?_
      refine lv_iadd hx hb dX2_shift_20 ?_
      refine lv_sipush (v := (360)) hx hb dX2_shift_21 (by decide) ?_
      refine g_calli hG (g_runS (rm := rm_J9_floorMod_7cf53) (As := [.int ((σ (o0 + 1) v2.toNatClampNeg) + v1), .int (360 : Int32)]) (rest := [.int v2, .ref (X.2.1 (o0 + 1))]) (n := 2) hE hG (m_J9_floorMod_7cf53 l X hw _) gX2_shift_J9_floorMod_7cf53 rfl rfl rfl (by decide +kernel) ⟨Nat.le_of_ble_eq_true rfl, Nat.le_of_ble_eq_true rfl⟩ rfl hl.1 (Nat.le_of_ble_eq_true rfl) dX2_shift_24 ⟨Nat.zero_le _, Nat.zero_le _⟩) (fun r3 σ4 H locs hw hG => ?_)
      obtain ⟨hi5, hw⟩ := hw
      refine g_iast (n := 8) hE hG (kd_lt (kc_on h_o0) (by decide)) (fun _ => ce_int (kc_on h_o0) (by decide) (by decide)) hi5 dX2_shift_27 (fun σ6 H locs eσ6 hG => ?_)
      have hw := hw σ6 eσ6
      refine lv_aload_n hx hb dX2_shift_28 rfl (lv_at hl 0 rfl) ?_
      refine g_get (k := 1) hE hG (kd_lt h_o0 (by decide)) (ce_2 h_o0) rfl (by decide +kernel) (by decide) (by decide +kernel) rfl rfl dX2_shift_29 ?_
      refine lv_iload_n hx hb dX2_shift_32 rfl (lv_at hl 2 rfl) ?_
      refine lv_aload_n hx hb dX2_shift_33 rfl (lv_at hl 0 rfl) ?_
      refine g_get (k := 1) hE hG (kd_lt h_o0 (by decide)) (ce_2 h_o0) rfl (by decide +kernel) (by decide) (by decide +kernel) rfl rfl dX2_shift_34 ?_
      refine lv_iload_n hx hb dX2_shift_37 rfl (lv_at hl 2 rfl) ?_
      obtain ⟨hi7, hw⟩ := hw
      refine g_iald (n := 8) hE hG (kd_lt (kc_off h_o0) (by decide)) (ce_int (kc_off h_o0) (by decide) (by decide)) hi7 dX2_shift_38 ?_
      refine lv_iload_n hx hb dX2_shift_39 rfl (lv_at hl 1 rfl) ?_
      refine lv_iadd hx hb dX2_shift_40 ?_
      refine lv_sipush (v := (360)) hx hb dX2_shift_41 (by decide) ?_
      refine g_calli hG (g_runS (rm := rm_J9_floorMod_7cf53) (As := [.int ((σ6 (o0 + 2) v2.toNatClampNeg) + v1), .int (360 : Int32)]) (rest := [.int v2, .ref (X.2.1 (o0 + 2))]) (n := 2) hE hG (m_J9_floorMod_7cf53 l X hw _) gX2_shift_J9_floorMod_7cf53 rfl rfl rfl (by decide +kernel) ⟨Nat.le_of_ble_eq_true rfl, Nat.le_of_ble_eq_true rfl⟩ rfl hl.1 (Nat.le_of_ble_eq_true rfl) dX2_shift_44 ⟨Nat.zero_le _, Nat.zero_le _⟩) (fun r8 σ9 H locs hw hG => ?_)
      obtain ⟨hi10, hw⟩ := hw
      refine g_iast (n := 8) hE hG (kd_lt (kc_off h_o0) (by decide)) (fun _ => ce_int (kc_off h_o0) (by decide) (by decide)) hi10 dX2_shift_47 (fun σ11 H locs eσ11 hG => ?_)
      have hw := hw σ11 eσ11
      obtain ⟨x12, ex12⟩ : ∃ z : Int32, z = v2 + (1 : Int32) := ⟨_, rfl⟩
      have hw := hw x12 ex12
      refine lv_iinc (v := x12) (lv' := [(2, .int x12), (0, .ref (X.2.1 o0)), (1, .int v1)]) hx hb dX2_shift_48 hl (k := 2) rfl (by rw [ex12]; rfl) (by decide) rfl (fun ls hl => ?_)
      refine lv_goto (tgt := 2) hx hb dX2_shift_51 (by decide) ?_
      exact ih _ _ _ _ _ hw hG (lv_sub hl [1, 2, 0] rfl)

set_option maxHeartbeats 4000000 in
set_option maxRecDepth 100000 in
theorem m_X2_shift (l : Launch) (X : wX) {Q : St → Prop} {o0 : Nat} {v1 : Int32} {σ : St} (h_o0 : kcL.getD o0 999 = 2) (hw : wp_X2_shift Q o0 v1 σ) : mV X kcL l yX2_shift wsX2_shift rm_X2_shift [.ref (X.2.1 o0), .int v1] σ Q := by
  refine mV.of (cc := cX2_shift) (maxL := 3) (ret := none) (by decide +kernel) rfl (Nat.le_of_ble_eq_true rfl) ?_
  intro A p e s m args below meth c ls hE hr hlk hl hG
  have hx := hE.1.1
  have hb := hE.1.2.1
  unfold wp_X2_shift at hw
  have hl : lv_has ls 3 [(0, .ref (X.2.1 o0)), (1, .int v1)] := hl
  refine lv_iconst (v := 0) hx hb dX2_shift_0 (by decide) ?_
  refine lv_istore_n (lv' := [(2, .int (0 : Int32)), (0, .ref (X.2.1 o0)), (1, .int v1)]) hx hb dX2_shift_1 rfl hl (by decide) rfl (fun ls hl => ?_)
  obtain ⟨n, hw⟩ := hw
  exact b_X2_shift_2 hE hr hlk h_o0 n _ _ _ _ _ hw hG (lv_sub hl [1, 2, 0] rfl)

set_option maxHeartbeats 4000000 in
set_option maxRecDepth 100000 in
theorem b_X2_become_2 {p : Program} {l : Launch} {e : Env} {s : State} {m : MethodId} {args : Array Value} {below : List Frame} {meth : Method} {c : Code} {X : wX} {A : Nat → Prop} (hE : eV p m c cX2_become 3 s args wsX2_become RX2 X) (hr : meth.sig.returnType = none) (hlk : meth.locks = false) {Q : St → Prop} {o0 : Nat} {o1 : Nat} (h_o0 : kcL.getD o0 999 = 2) (h_o1 : kcL.getD o1 999 = 2) : ∀ (n : Nat) (σ : St) (v2 : Int32) (H : Heap) (locs : List Loc) (ls : Array Slot), wl_X2_become_2 Q o0 o1 n σ v2 → gW X kcL A s.heap σ H locs → lv_has ls 3 [(0, .ref (X.2.1 o0)), (1, .ref (X.2.1 o1)), (2, .int v2)] → W p l e rm_X2_become s m args below meth c H locs 0 0 (zV X kcL below args s A Q) (F0 m 2 ls []) := by
  have hx := hE.1.1
  have hb := hE.1.2.1
  intro n
  induction n with
  | zero =>
    intro σ v2 H locs ls hw
    exact False.elim hw
  | succ n ih =>
    intro σ v2 H locs ls hw hG hl
    have hw : wB_X2_become_2 Q (wl_X2_become_2 Q o0 o1 n) o0 o1 σ v2 := hw
    unfold wB_X2_become_2 at hw
    refine lv_iload_n hx hb dX2_become_2 rfl (lv_at hl 2 rfl) ?_
    refine lv_bipush (v := (8)) hx hb dX2_become_3 (by decide) ?_
    refine lv_icmp_ge (tgt := 38) hx hb dX2_become_5 (by decide) (fun hc1 => ?_) (fun hc1 => ?_)
    · have hw := hw.1 hc1
      exact g_vret hE hG hr hlk dX2_become_38 hw
    · have hw := hw.2 hc1
      refine lv_aload_n hx hb dX2_become_8 rfl (lv_at hl 0 rfl) ?_
      refine g_get (k := 0) hE hG (kd_lt h_o0 (by decide)) (ce_2 h_o0) rfl (by decide +kernel) (by decide) (by decide +kernel) rfl rfl dX2_become_9 ?_
      refine lv_iload_n hx hb dX2_become_12 rfl (lv_at hl 2 rfl) ?_
      refine lv_aload_n hx hb dX2_become_13 rfl (lv_at hl 1 rfl) ?_
      refine g_get (k := 0) hE hG (kd_lt h_o1 (by decide)) (ce_2 h_o1) rfl (by decide +kernel) (by decide) (by decide +kernel) rfl rfl dX2_become_14 ?_
      refine lv_iload_n hx hb dX2_become_17 rfl (lv_at hl 2 rfl) ?_
      obtain ⟨hi2, hw⟩ := hw
      refine g_iald (n := 8) hE hG (kd_lt (kc_on h_o1) (by decide)) (ce_int (kc_on h_o1) (by decide) (by decide)) hi2 dX2_become_18 ?_
      obtain ⟨hi3, hw⟩ := hw
      refine g_iast (n := 8) hE hG (kd_lt (kc_on h_o0) (by decide)) (fun _ => ce_int (kc_on h_o0) (by decide) (by decide)) hi3 dX2_become_19 (fun σ4 H locs eσ4 hG => ?_)
      have hw := hw σ4 eσ4
      refine lv_aload_n hx hb dX2_become_20 rfl (lv_at hl 0 rfl) ?_
      refine g_get (k := 1) hE hG (kd_lt h_o0 (by decide)) (ce_2 h_o0) rfl (by decide +kernel) (by decide) (by decide +kernel) rfl rfl dX2_become_21 ?_
      refine lv_iload_n hx hb dX2_become_24 rfl (lv_at hl 2 rfl) ?_
      refine lv_aload_n hx hb dX2_become_25 rfl (lv_at hl 1 rfl) ?_
      refine g_get (k := 1) hE hG (kd_lt h_o1 (by decide)) (ce_2 h_o1) rfl (by decide +kernel) (by decide) (by decide +kernel) rfl rfl dX2_become_26 ?_
      refine lv_iload_n hx hb dX2_become_29 rfl (lv_at hl 2 rfl) ?_
      obtain ⟨hi5, hw⟩ := hw
      refine g_iald (n := 8) hE hG (kd_lt (kc_off h_o1) (by decide)) (ce_int (kc_off h_o1) (by decide) (by decide)) hi5 dX2_become_30 ?_
      obtain ⟨hi6, hw⟩ := hw
      refine g_iast (n := 8) hE hG (kd_lt (kc_off h_o0) (by decide)) (fun _ => ce_int (kc_off h_o0) (by decide) (by decide)) hi6 dX2_become_31 (fun σ7 H locs eσ7 hG => ?_)
      have hw := hw σ7 eσ7
      obtain ⟨x8, ex8⟩ : ∃ z : Int32, z = v2 + (1 : Int32) := ⟨_, rfl⟩
      have hw := hw x8 ex8
      refine lv_iinc (v := x8) (lv' := [(2, .int x8), (0, .ref (X.2.1 o0)), (1, .ref (X.2.1 o1))]) hx hb dX2_become_32 hl (k := 2) rfl (by rw [ex8]; rfl) (by decide) rfl (fun ls hl => ?_)
      refine lv_goto (tgt := 2) hx hb dX2_become_35 (by decide) ?_
      exact ih _ _ _ _ _ hw hG (lv_sub hl [1, 2, 0] rfl)

set_option maxHeartbeats 4000000 in
set_option maxRecDepth 100000 in
theorem m_X2_become (l : Launch) (X : wX) {Q : St → Prop} {o0 : Nat} {o1 : Nat} {σ : St} (h_o0 : kcL.getD o0 999 = 2) (h_o1 : kcL.getD o1 999 = 2) (hw : wp_X2_become Q o0 o1 σ) : mV X kcL l yX2_become wsX2_become rm_X2_become [.ref (X.2.1 o0), .ref (X.2.1 o1)] σ Q := by
  refine mV.of (cc := cX2_become) (maxL := 3) (ret := none) (by decide +kernel) rfl (Nat.le_of_ble_eq_true rfl) ?_
  intro A p e s m args below meth c ls hE hr hlk hl hG
  have hx := hE.1.1
  have hb := hE.1.2.1
  unfold wp_X2_become at hw
  have hl : lv_has ls 3 [(0, .ref (X.2.1 o0)), (1, .ref (X.2.1 o1))] := hl
  refine lv_iconst (v := 0) hx hb dX2_become_0 (by decide) ?_
  refine lv_istore_n (lv' := [(2, .int (0 : Int32)), (0, .ref (X.2.1 o0)), (1, .ref (X.2.1 o1))]) hx hb dX2_become_1 rfl hl (by decide) rfl (fun ls hl => ?_)
  obtain ⟨n, hw⟩ := hw
  exact b_X2_become_2 hE hr hlk h_o0 h_o1 n _ _ _ _ _ hw hG (lv_sub hl [1, 2, 0] rfl)

set_option maxHeartbeats 4000000 in
set_option maxRecDepth 100000 in
theorem m_X9_wayUp (l : Launch) (X : wX) {Q : Int32 → St → Prop} {v0 : Int32} {v1 : Int32} {σ : St} (hw : wp_X9_wayUp Q v0 v1 σ) : mI X kcL l yX9_wayUp wsX9_wayUp rm_X9_wayUp [.int v0, .int v1] σ Q := by
  refine mI.of (cc := cX9_wayUp) (maxL := 2) (ret := (some .int)) (by decide +kernel) rfl (Nat.le_of_ble_eq_true rfl) ?_
  intro A p e s m args below meth c ls hE hr hlk hl hG
  have hx := hE.1.1
  have hb := hE.1.2.1
  unfold wp_X9_wayUp at hw
  have hl : lv_has ls 2 [(0, .int v0), (1, .int v1)] := hl
  refine lv_iload_n hx hb dX9_wayUp_0 rfl (lv_at hl 1 rfl) ?_
  refine lv_iload_n hx hb dX9_wayUp_1 rfl (lv_at hl 0 rfl) ?_
  refine lv_icmp_ge (tgt := 15) hx hb dX9_wayUp_2 (by decide) (fun hc1 => ?_) (fun hc1 => ?_)
  · have hw := hw.1 hc1
    refine lv_iload_n hx hb dX9_wayUp_15 rfl (lv_at hl 1 rfl) ?_
    refine lv_iload_n hx hb dX9_wayUp_16 rfl (lv_at hl 0 rfl) ?_
    refine lv_isub hx hb dX9_wayUp_17 ?_
    exact g_iret hE hG hr hlk dX9_wayUp_18 hw
  · have hw := hw.2 hc1
    refine lv_iload_n hx hb dX9_wayUp_5 rfl (lv_at hl 1 rfl) ?_
    refine lv_iload_n hx hb dX9_wayUp_6 rfl (lv_at hl 0 rfl) ?_
    refine lv_isub hx hb dX9_wayUp_7 ?_
    refine lv_sipush (v := (360)) hx hb dX9_wayUp_8 (by decide) ?_
    refine lv_iadd hx hb dX9_wayUp_11 ?_
    refine lv_goto (tgt := 18) hx hb dX9_wayUp_12 (by decide) ?_
    exact g_iret hE hG hr hlk dX9_wayUp_18 hw

set_option maxHeartbeats 4000000 in
set_option maxRecDepth 100000 in
theorem m_X2_length (l : Launch) (X : wX) {Q : Int32 → St → Prop} {o0 : Nat} {v1 : Int32} {σ : St} (h_o0 : kcL.getD o0 999 = 2) (hw : wp_X2_length Q o0 v1 σ) : mI X kcL l yX2_length wsX2_length rm_X2_length [.ref (X.2.1 o0), .int v1] σ Q := by
  refine mI.of (cc := cX2_length) (maxL := 2) (ret := (some .int)) (by decide +kernel) rfl (Nat.le_of_ble_eq_true rfl) ?_
  intro A p e s m args below meth c ls hE hr hlk hl hG
  have hx := hE.1.1
  have hb := hE.1.2.1
  unfold wp_X2_length at hw
  have hl : lv_has ls 2 [(0, .ref (X.2.1 o0)), (1, .int v1)] := hl
  refine lv_aload_n hx hb dX2_length_0 rfl (lv_at hl 0 rfl) ?_
  refine g_get (k := 0) hE hG (kd_lt h_o0 (by decide)) (ce_2 h_o0) rfl (by decide +kernel) (by decide) (by decide +kernel) rfl rfl dX2_length_1 ?_
  refine lv_iload_n hx hb dX2_length_4 rfl (lv_at hl 1 rfl) ?_
  obtain ⟨hi1, hw⟩ := hw
  refine g_iald (n := 8) hE hG (kd_lt (kc_on h_o0) (by decide)) (ce_int (kc_on h_o0) (by decide) (by decide)) hi1 dX2_length_5 ?_
  refine lv_aload_n hx hb dX2_length_6 rfl (lv_at hl 0 rfl) ?_
  refine g_get (k := 1) hE hG (kd_lt h_o0 (by decide)) (ce_2 h_o0) rfl (by decide +kernel) (by decide) (by decide +kernel) rfl rfl dX2_length_7 ?_
  refine lv_iload_n hx hb dX2_length_10 rfl (lv_at hl 1 rfl) ?_
  obtain ⟨hi2, hw⟩ := hw
  refine g_iald (n := 8) hE hG (kd_lt (kc_off h_o0) (by decide)) (ce_int (kc_off h_o0) (by decide) (by decide)) hi2 dX2_length_11 ?_
  refine g_calli hG (g_runN (rm := rm_X9_wayUp) (As := [.int (σ (o0 + 1) v1.toNatClampNeg), .int (σ (o0 + 2) v1.toNatClampNeg)]) (rest := []) (n := 2) hE hG (m_X9_wayUp l X hw _) gX2_length_X9_wayUp_n24 rfl rfl rfl hE.2.2.2.1 (by decide +kernel) (by decide +kernel) (by decide +kernel) ⟨Nat.le_of_ble_eq_true rfl, Nat.le_of_ble_eq_true rfl⟩ rfl hl.1 (Nat.le_of_ble_eq_true rfl) dX2_length_12 ⟨Nat.zero_le _, Nat.zero_le _⟩) (fun r3 σ4 H locs hw hG => ?_)
  exact g_iret hE hG hr hlk dX2_length_15 hw

set_option maxHeartbeats 4000000 in
set_option maxRecDepth 100000 in
theorem m_X2_isDone (l : Launch) (X : wX) {Q : Int32 → St → Prop} {o0 : Nat} {v1 : Int32} {v2 : Int32} {σ : St} (h_o0 : kcL.getD o0 999 = 2) (hw : wp_X2_isDone Q o0 v1 v2 σ) : mI X kcL l yX2_isDone wsX2_isDone rm_X2_isDone [.ref (X.2.1 o0), .int v1, .int v2] σ Q := by
  refine mI.of (cc := cX2_isDone) (maxL := 3) (ret := (some .boolean)) (by decide +kernel) rfl (Nat.le_of_ble_eq_true rfl) ?_
  intro A p e s m args below meth c ls hE hr hlk hl hG
  have hx := hE.1.1
  have hb := hE.1.2.1
  unfold wp_X2_isDone at hw
  have hl : lv_has ls 3 [(0, .ref (X.2.1 o0)), (1, .int v1), (2, .int v2)] := hl
  refine lv_aload_n hx hb dX2_isDone_0 rfl (lv_at hl 0 rfl) ?_
  refine g_get (k := 0) hE hG (kd_lt h_o0 (by decide)) (ce_2 h_o0) rfl (by decide +kernel) (by decide) (by decide +kernel) rfl rfl dX2_isDone_1 ?_
  refine lv_iload_n hx hb dX2_isDone_4 rfl (lv_at hl 1 rfl) ?_
  obtain ⟨hi1, hw⟩ := hw
  refine g_iald (n := 8) hE hG (kd_lt (kc_on h_o0) (by decide)) (ce_int (kc_on h_o0) (by decide) (by decide)) hi1 dX2_isDone_5 ?_
  refine lv_iload_n hx hb dX2_isDone_6 rfl (lv_at hl 2 rfl) ?_
  refine g_calli hG (g_runN (rm := rm_X9_wayUp) (As := [.int (σ (o0 + 1) v1.toNatClampNeg), .int v2]) (rest := []) (n := 2) hE hG (m_X9_wayUp l X hw _) gX2_isDone_X9_wayUp_n24 rfl rfl rfl hE.2.2.2.1 (by decide +kernel) (by decide +kernel) (by decide +kernel) ⟨Nat.le_of_ble_eq_true rfl, Nat.le_of_ble_eq_true rfl⟩ rfl hl.1 (Nat.le_of_ble_eq_true rfl) dX2_isDone_7 ⟨Nat.zero_le _, Nat.zero_le _⟩) (fun r2 σ3 H locs hw hG => ?_)
  refine lv_aload_n hx hb dX2_isDone_10 rfl (lv_at hl 0 rfl) ?_
  refine lv_iload_n hx hb dX2_isDone_11 rfl (lv_at hl 1 rfl) ?_
  refine g_calli hG (g_runV (rm := rm_X2_length) (As := [.int v1]) (rest := [.int r2]) (n := 1) hE hG (m_X2_length l X h_o0 hw _) gX2_isDone_X2_length rfl rfl rfl (by decide +kernel) ⟨Nat.le_of_ble_eq_true rfl, Nat.le_of_ble_eq_true rfl⟩ (kd_lt h_o0 (by decide)) (ce_2 h_o0) rfl rfl rfl hl.1 (Nat.le_of_ble_eq_true rfl) dX2_isDone_12 ⟨Nat.zero_le _, Nat.zero_le _⟩) (fun r4 σ5 H locs hw hG => ?_)
  refine lv_icmp_ge (tgt := 22) hx hb dX2_isDone_15 (by decide) (fun hc6 => ?_) (fun hc6 => ?_)
  · have hw := hw.1 hc6
    refine lv_iconst (v := 0) hx hb dX2_isDone_22 (by decide) ?_
    exact g_zret hE hG hr hlk dX2_isDone_23 (by decide) hw
  · have hw := hw.2 hc6
    refine lv_iconst (v := 1) hx hb dX2_isDone_18 (by decide) ?_
    refine lv_goto (tgt := 23) hx hb dX2_isDone_19 (by decide) ?_
    exact g_zret hE hG hr hlk dX2_isDone_23 (by decide) hw

set_option maxHeartbeats 4000000 in
set_option maxRecDepth 100000 in
theorem m_X2_isInside (l : Launch) (X : wX) {Q : Int32 → St → Prop} {o0 : Nat} {v1 : Int32} {v2 : Int32} {σ : St} (h_o0 : kcL.getD o0 999 = 2) (hw : wp_X2_isInside Q o0 v1 v2 σ) : mI X kcL l yX2_isInside wsX2_isInside rm_X2_isInside [.ref (X.2.1 o0), .int v1, .int v2] σ Q := by
  refine mI.of (cc := cX2_isInside) (maxL := 3) (ret := (some .boolean)) (by decide +kernel) rfl (Nat.le_of_ble_eq_true rfl) ?_
  intro A p e s m args below meth c ls hE hr hlk hl hG
  have hx := hE.1.1
  have hb := hE.1.2.1
  unfold wp_X2_isInside at hw
  have hl : lv_has ls 3 [(0, .ref (X.2.1 o0)), (1, .int v1), (2, .int v2)] := hl
  refine lv_aload_n hx hb dX2_isInside_0 rfl (lv_at hl 0 rfl) ?_
  refine g_get (k := 0) hE hG (kd_lt h_o0 (by decide)) (ce_2 h_o0) rfl (by decide +kernel) (by decide) (by decide +kernel) rfl rfl dX2_isInside_1 ?_
  refine lv_iload_n hx hb dX2_isInside_4 rfl (lv_at hl 2 rfl) ?_
  obtain ⟨hi1, hw⟩ := hw
  refine g_iald (n := 8) hE hG (kd_lt (kc_on h_o0) (by decide)) (ce_int (kc_on h_o0) (by decide) (by decide)) hi1 dX2_isInside_5 ?_
  refine lv_aload_n hx hb dX2_isInside_6 rfl (lv_at hl 0 rfl) ?_
  refine g_get (k := 0) hE hG (kd_lt h_o0 (by decide)) (ce_2 h_o0) rfl (by decide +kernel) (by decide) (by decide +kernel) rfl rfl dX2_isInside_7 ?_
  refine lv_iload_n hx hb dX2_isInside_10 rfl (lv_at hl 1 rfl) ?_
  obtain ⟨hi2, hw⟩ := hw
  refine g_iald (n := 8) hE hG (kd_lt (kc_on h_o0) (by decide)) (ce_int (kc_on h_o0) (by decide) (by decide)) hi2 dX2_isInside_11 ?_
  refine g_calli hG (g_runN (rm := rm_X9_wayUp) (As := [.int (σ (o0 + 1) v2.toNatClampNeg), .int (σ (o0 + 1) v1.toNatClampNeg)]) (rest := []) (n := 2) hE hG (m_X9_wayUp l X hw _) gX2_isInside_X9_wayUp_n24 rfl rfl rfl hE.2.2.2.1 (by decide +kernel) (by decide +kernel) (by decide +kernel) ⟨Nat.le_of_ble_eq_true rfl, Nat.le_of_ble_eq_true rfl⟩ rfl hl.1 (Nat.le_of_ble_eq_true rfl) dX2_isInside_12 ⟨Nat.zero_le _, Nat.zero_le _⟩) (fun r3 σ4 H locs hw hG => ?_)
  refine lv_aload_n hx hb dX2_isInside_15 rfl (lv_at hl 0 rfl) ?_
  refine lv_iload_n hx hb dX2_isInside_16 rfl (lv_at hl 1 rfl) ?_
  refine g_calli hG (g_runV (rm := rm_X2_length) (As := [.int v1]) (rest := [.int r3]) (n := 1) hE hG (m_X2_length l X h_o0 hw _) gX2_isInside_X2_length rfl rfl rfl (by decide +kernel) ⟨Nat.le_of_ble_eq_true rfl, Nat.le_of_ble_eq_true rfl⟩ (kd_lt h_o0 (by decide)) (ce_2 h_o0) rfl rfl rfl hl.1 (Nat.le_of_ble_eq_true rfl) dX2_isInside_17 ⟨Nat.zero_le _, Nat.zero_le _⟩) (fun r5 σ6 H locs hw hG => ?_)
  refine lv_iadd hx hb dX2_isInside_20 ?_
  refine lv_aload_n hx hb dX2_isInside_21 rfl (lv_at hl 0 rfl) ?_
  refine lv_iload_n hx hb dX2_isInside_22 rfl (lv_at hl 2 rfl) ?_
  refine g_calli hG (g_runV (rm := rm_X2_length) (As := [.int v2]) (rest := [.int (r3 + r5)]) (n := 1) hE hG (m_X2_length l X h_o0 hw _) gX2_isInside_X2_length rfl rfl rfl (by decide +kernel) ⟨Nat.le_of_ble_eq_true rfl, Nat.le_of_ble_eq_true rfl⟩ (kd_lt h_o0 (by decide)) (ce_2 h_o0) rfl rfl rfl hl.1 (Nat.le_of_ble_eq_true rfl) dX2_isInside_23 ⟨Nat.zero_le _, Nat.zero_le _⟩) (fun r7 σ8 H locs hw hG => ?_)
  refine lv_icmp_gt (tgt := 33) hx hb dX2_isInside_26 (by decide) (fun hc9 => ?_) (fun hc9 => ?_)
  · have hw := hw.1 hc9
    refine lv_iconst (v := 0) hx hb dX2_isInside_33 (by decide) ?_
    exact g_zret hE hG hr hlk dX2_isInside_34 (by decide) hw
  · have hw := hw.2 hc9
    refine lv_iconst (v := 1) hx hb dX2_isInside_29 (by decide) ?_
    refine lv_goto (tgt := 34) hx hb dX2_isInside_30 (by decide) ?_
    exact g_zret hE hG hr hlk dX2_isInside_34 (by decide) hw

set_option maxHeartbeats 4000000 in
set_option maxRecDepth 100000 in
theorem m_X8_isBroken (l : Launch) (X : wX) {Q : Int32 → St → Prop} {o0 : Nat} {o1 : Nat} {v2 : Int32} {σ : St} (h_o0 : kcL.getD o0 999 = 8) (h_o1 : kcL.getD o1 999 = 2) (hw : wp_X8_isBroken Q o0 o1 v2 σ) : mI X kcL l yX8_isBroken wsX8_isBroken rm_X8_isBroken [.ref (X.2.1 o0), .ref (X.2.1 o1), .int v2] σ Q := by
  refine mI.of (cc := cX8_isBroken) (maxL := 3) (ret := (some .boolean)) (by decide +kernel) rfl (Nat.le_of_ble_eq_true rfl) ?_
  intro A p e s m args below meth c ls hE hr hlk hl hG
  have hx := hE.1.1
  have hb := hE.1.2.1
  unfold wp_X8_isBroken at hw
  have hl : lv_has ls 3 [(0, .ref (X.2.1 o0)), (1, .ref (X.2.1 o1)), (2, .int v2)] := hl
  refine lv_aload_n hx hb dX8_isBroken_0 rfl (lv_at hl 0 rfl) ?_
  refine g_get (k := 0) hE hG (kd_lt h_o0 (by decide)) (ce_8 h_o0) rfl (by decide +kernel) (by decide) (by decide +kernel) rfl rfl dX8_isBroken_1 ?_
  by_cases hs6 : (σ o0 0) = (0 : Int32)
  · refine lv_tableIn (tgt := 32) hx hb dX8_isBroken_4 (by rw [hs6]; decide) (by rw [hs6]; decide) (by rw [hs6]; rfl) (by decide) ?_
    have hw := hw.1 hs6
    refine lv_aload_n hx hb dX8_isBroken_32 rfl (lv_at hl 1 rfl) ?_
    refine g_get (k := 1) hE hG (kd_lt h_o1 (by decide)) (ce_2 h_o1) rfl (by decide +kernel) (by decide) (by decide +kernel) rfl rfl dX8_isBroken_33 ?_
    refine lv_aload_n hx hb dX8_isBroken_36 rfl (lv_at hl 0 rfl) ?_
    refine g_get (k := 1) hE hG (kd_lt h_o0 (by decide)) (ce_8 h_o0) rfl (by decide +kernel) (by decide) (by decide +kernel) rfl rfl dX8_isBroken_37 ?_
    obtain ⟨hi1, hw⟩ := hw
    refine g_iald (n := 8) hE hG (kd_lt (kc_off h_o1) (by decide)) (ce_int (kc_off h_o1) (by decide) (by decide)) hi1 dX8_isBroken_40 ?_
    refine lv_aload_n hx hb dX8_isBroken_41 rfl (lv_at hl 1 rfl) ?_
    refine g_get (k := 0) hE hG (kd_lt h_o1 (by decide)) (ce_2 h_o1) rfl (by decide +kernel) (by decide) (by decide +kernel) rfl rfl dX8_isBroken_42 ?_
    refine lv_aload_n hx hb dX8_isBroken_45 rfl (lv_at hl 0 rfl) ?_
    refine g_get (k := 2) hE hG (kd_lt h_o0 (by decide)) (ce_8 h_o0) rfl (by decide +kernel) (by decide) (by decide +kernel) rfl rfl dX8_isBroken_46 ?_
    obtain ⟨hi2, hw⟩ := hw
    refine g_iald (n := 8) hE hG (kd_lt (kc_on h_o1) (by decide)) (ce_int (kc_on h_o1) (by decide) (by decide)) hi2 dX8_isBroken_49 ?_
    refine g_calli hG (g_runN (rm := rm_X9_wayUp) (As := [.int (σ (o1 + 2) (σ o0 1).toNatClampNeg), .int (σ (o1 + 1) (σ o0 2).toNatClampNeg)]) (rest := []) (n := 2) hE hG (m_X9_wayUp l X hw _) gX8_isBroken_X9_wayUp_n33 rfl rfl rfl hE.2.2.1 (by decide +kernel) (by decide +kernel) (by decide +kernel) ⟨Nat.le_of_ble_eq_true rfl, Nat.le_of_ble_eq_true rfl⟩ rfl hl.1 (Nat.le_of_ble_eq_true rfl) dX8_isBroken_50 ⟨Nat.zero_le _, Nat.zero_le _⟩) (fun r3 σ4 H locs hw hG => ?_)
    refine lv_aload_n hx hb dX8_isBroken_53 rfl (lv_at hl 0 rfl) ?_
    refine g_get (k := 3) hE hG (kd_lt h_o0 (by decide)) (ce_8 h_o0) rfl (by decide +kernel) (by decide) (by decide +kernel) rfl rfl dX8_isBroken_54 ?_
    refine lv_icmp_ge (tgt := 64) hx hb dX8_isBroken_57 (by decide) (fun hc5 => ?_) (fun hc5 => ?_)
    · have hw := hw.1 hc5
      refine lv_iconst (v := 0) hx hb dX8_isBroken_64 (by decide) ?_
      exact g_zret hE hG hr hlk dX8_isBroken_65 (by decide) hw
    · have hw := hw.2 hc5
      refine lv_iconst (v := 1) hx hb dX8_isBroken_60 (by decide) ?_
      refine lv_goto (tgt := 65) hx hb dX8_isBroken_61 (by decide) ?_
      exact g_zret hE hG hr hlk dX8_isBroken_65 (by decide) hw
  · skip
    by_cases hs15 : (σ o0 0) = (1 : Int32)
    · refine lv_tableIn (tgt := 66) hx hb dX8_isBroken_4 (by rw [hs15]; decide) (by rw [hs15]; decide) (by rw [hs15]; rfl) (by decide) ?_
      have hw := hw.2.1 hs15
      refine lv_aload_n hx hb dX8_isBroken_66 rfl (lv_at hl 1 rfl) ?_
      refine lv_aload_n hx hb dX8_isBroken_67 rfl (lv_at hl 0 rfl) ?_
      refine g_get (k := 1) hE hG (kd_lt h_o0 (by decide)) (ce_8 h_o0) rfl (by decide +kernel) (by decide) (by decide +kernel) rfl rfl dX8_isBroken_68 ?_
      refine lv_aload_n hx hb dX8_isBroken_71 rfl (lv_at hl 1 rfl) ?_
      refine g_get (k := 0) hE hG (kd_lt h_o1 (by decide)) (ce_2 h_o1) rfl (by decide +kernel) (by decide) (by decide +kernel) rfl rfl dX8_isBroken_72 ?_
      refine lv_aload_n hx hb dX8_isBroken_75 rfl (lv_at hl 0 rfl) ?_
      refine g_get (k := 2) hE hG (kd_lt h_o0 (by decide)) (ce_8 h_o0) rfl (by decide +kernel) (by decide) (by decide +kernel) rfl rfl dX8_isBroken_76 ?_
      obtain ⟨hi7, hw⟩ := hw
      refine g_iald (n := 8) hE hG (kd_lt (kc_on h_o1) (by decide)) (ce_int (kc_on h_o1) (by decide) (by decide)) hi7 dX8_isBroken_79 ?_
      refine g_calli hG (g_runV (rm := rm_X2_isDone) (As := [.int (σ o0 1), .int (σ (o1 + 1) (σ o0 2).toNatClampNeg)]) (rest := []) (n := 2) hE hG (m_X2_isDone l X h_o1 hw _) gX8_isBroken_X2_isDone rfl rfl rfl (by decide +kernel) ⟨Nat.le_of_ble_eq_true rfl, Nat.le_of_ble_eq_true rfl⟩ (kd_lt h_o1 (by decide)) (ce_2 h_o1) rfl rfl rfl hl.1 (Nat.le_of_ble_eq_true rfl) dX8_isBroken_80 ⟨Nat.zero_le _, Nat.zero_le _⟩) (fun r8 σ9 H locs hw hG => ?_)
      refine lv_if_ne (tgt := 106) hx hb dX8_isBroken_83 (by decide) (fun hc10 => ?_) (fun hc10 => ?_)
      · have hw := hw.1 hc10
        refine lv_iconst (v := 1) hx hb dX8_isBroken_106 (by decide) ?_
        refine lv_goto (tgt := 111) hx hb dX8_isBroken_107 (by decide) ?_
        exact g_zret hE hG hr hlk dX8_isBroken_111 (by decide) hw
      · have hw := hw.2 hc10
        refine lv_aload_n hx hb dX8_isBroken_86 rfl (lv_at hl 1 rfl) ?_
        refine lv_aload_n hx hb dX8_isBroken_87 rfl (lv_at hl 0 rfl) ?_
        refine g_get (k := 2) hE hG (kd_lt h_o0 (by decide)) (ce_8 h_o0) rfl (by decide +kernel) (by decide) (by decide +kernel) rfl rfl dX8_isBroken_88 ?_
        refine lv_aload_n hx hb dX8_isBroken_91 rfl (lv_at hl 1 rfl) ?_
        refine g_get (k := 0) hE hG (kd_lt h_o1 (by decide)) (ce_2 h_o1) rfl (by decide +kernel) (by decide) (by decide +kernel) rfl rfl dX8_isBroken_92 ?_
        refine lv_aload_n hx hb dX8_isBroken_95 rfl (lv_at hl 0 rfl) ?_
        refine g_get (k := 1) hE hG (kd_lt h_o0 (by decide)) (ce_8 h_o0) rfl (by decide +kernel) (by decide) (by decide +kernel) rfl rfl dX8_isBroken_96 ?_
        obtain ⟨hi11, hw⟩ := hw
        refine g_iald (n := 8) hE hG (kd_lt (kc_on h_o1) (by decide)) (ce_int (kc_on h_o1) (by decide) (by decide)) hi11 dX8_isBroken_99 ?_
        refine g_calli hG (g_runV (rm := rm_X2_isDone) (As := [.int (σ9 o0 2), .int (σ9 (o1 + 1) (σ9 o0 1).toNatClampNeg)]) (rest := []) (n := 2) hE hG (m_X2_isDone l X h_o1 hw _) gX8_isBroken_X2_isDone rfl rfl rfl (by decide +kernel) ⟨Nat.le_of_ble_eq_true rfl, Nat.le_of_ble_eq_true rfl⟩ (kd_lt h_o1 (by decide)) (ce_2 h_o1) rfl rfl rfl hl.1 (Nat.le_of_ble_eq_true rfl) dX8_isBroken_100 ⟨Nat.zero_le _, Nat.zero_le _⟩) (fun r12 σ13 H locs hw hG => ?_)
        refine lv_if_eq (tgt := 110) hx hb dX8_isBroken_103 (by decide) (fun hc14 => ?_) (fun hc14 => ?_)
        · have hw := hw.1 hc14
          refine lv_iconst (v := 0) hx hb dX8_isBroken_110 (by decide) ?_
          exact g_zret hE hG hr hlk dX8_isBroken_111 (by decide) hw
        · have hw := hw.2 hc14
          refine lv_iconst (v := 1) hx hb dX8_isBroken_106 (by decide) ?_
          refine lv_goto (tgt := 111) hx hb dX8_isBroken_107 (by decide) ?_
          exact g_zret hE hG hr hlk dX8_isBroken_111 (by decide) hw
    · skip
      by_cases hs19 : (σ o0 0) = (2 : Int32)
      · refine lv_tableIn (tgt := 112) hx hb dX8_isBroken_4 (by rw [hs19]; decide) (by rw [hs19]; decide) (by rw [hs19]; rfl) (by decide) ?_
        have hw := hw.2.2.1 hs19
        refine lv_aload_n hx hb dX8_isBroken_112 rfl (lv_at hl 1 rfl) ?_
        refine lv_aload_n hx hb dX8_isBroken_113 rfl (lv_at hl 0 rfl) ?_
        refine g_get (k := 1) hE hG (kd_lt h_o0 (by decide)) (ce_8 h_o0) rfl (by decide +kernel) (by decide) (by decide +kernel) rfl rfl dX8_isBroken_114 ?_
        refine g_calli hG (g_runV (rm := rm_X2_length) (As := [.int (σ o0 1)]) (rest := []) (n := 1) hE hG (m_X2_length l X h_o1 hw _) gX8_isBroken_X2_length rfl rfl rfl (by decide +kernel) ⟨Nat.le_of_ble_eq_true rfl, Nat.le_of_ble_eq_true rfl⟩ (kd_lt h_o1 (by decide)) (ce_2 h_o1) rfl rfl rfl hl.1 (Nat.le_of_ble_eq_true rfl) dX8_isBroken_117 ⟨Nat.zero_le _, Nat.zero_le _⟩) (fun r16 σ17 H locs hw hG => ?_)
        refine lv_sipush (v := (500)) hx hb dX8_isBroken_120 (by decide) ?_
        refine lv_imul hx hb dX8_isBroken_123 ?_
        refine lv_iconst (v := 3) hx hb dX8_isBroken_124 (by decide) ?_
        refine lv_iload_n hx hb dX8_isBroken_125 rfl (lv_at hl 2 rfl) ?_
        refine lv_imul hx hb dX8_isBroken_126 ?_
        refine lv_aload_n hx hb dX8_isBroken_127 rfl (lv_at hl 0 rfl) ?_
        refine g_get (k := 3) hE hG (kd_lt h_o0 (by decide)) (ce_8 h_o0) rfl (by decide +kernel) (by decide) (by decide +kernel) rfl rfl dX8_isBroken_128 ?_
        refine lv_imul hx hb dX8_isBroken_131 ?_
        refine lv_icmp_ge (tgt := 139) hx hb dX8_isBroken_132 (by decide) (fun hc18 => ?_) (fun hc18 => ?_)
        · have hw := hw.1 hc18
          refine lv_iconst (v := 0) hx hb dX8_isBroken_139 (by decide) ?_
          exact g_zret hE hG hr hlk dX8_isBroken_140 (by decide) hw
        · have hw := hw.2 hc18
          refine lv_iconst (v := 1) hx hb dX8_isBroken_135 (by decide) ?_
          refine lv_goto (tgt := 140) hx hb dX8_isBroken_136 (by decide) ?_
          exact g_zret hE hG hr hlk dX8_isBroken_140 (by decide) hw
      · skip
        have hw := hw.2.2.2 hs6 hs15 hs19
        have q0 := lv_neT hs6 (a := 0) (by decide)
        have q1 := lv_neT hs15 (a := 1) (by decide)
        have q2 := lv_neT hs19 (a := 2) (by decide)
        refine lv_tableOut (tgt := 141) hx hb dX8_isBroken_4 (by omega) (by decide) ?_
        refine lv_aload_n hx hb dX8_isBroken_141 rfl (lv_at hl 1 rfl) ?_
        refine lv_aload_n hx hb dX8_isBroken_142 rfl (lv_at hl 0 rfl) ?_
        refine g_get (k := 1) hE hG (kd_lt h_o0 (by decide)) (ce_8 h_o0) rfl (by decide +kernel) (by decide) (by decide +kernel) rfl rfl dX8_isBroken_143 ?_
        refine lv_aload_n hx hb dX8_isBroken_146 rfl (lv_at hl 0 rfl) ?_
        refine g_get (k := 2) hE hG (kd_lt h_o0 (by decide)) (ce_8 h_o0) rfl (by decide +kernel) (by decide) (by decide +kernel) rfl rfl dX8_isBroken_147 ?_
        refine g_calli hG (g_runV (rm := rm_X2_isInside) (As := [.int (σ o0 1), .int (σ o0 2)]) (rest := []) (n := 2) hE hG (m_X2_isInside l X h_o1 hw _) gX8_isBroken_X2_isInside rfl rfl rfl (by decide +kernel) ⟨Nat.le_of_ble_eq_true rfl, Nat.le_of_ble_eq_true rfl⟩ (kd_lt h_o1 (by decide)) (ce_2 h_o1) rfl rfl rfl hl.1 (Nat.le_of_ble_eq_true rfl) dX8_isBroken_150 ⟨Nat.zero_le _, Nat.zero_le _⟩) (fun r20 σ21 H locs hw hG => ?_)
        refine lv_if_ne (tgt := 160) hx hb dX8_isBroken_153 (by decide) (fun hc22 => ?_) (fun hc22 => ?_)
        · have hw := hw.1 hc22
          refine lv_iconst (v := 0) hx hb dX8_isBroken_160 (by decide) ?_
          exact g_zret hE hG hr hlk dX8_isBroken_161 (by decide) hw
        · have hw := hw.2 hc22
          refine lv_iconst (v := 1) hx hb dX8_isBroken_156 (by decide) ?_
          refine lv_goto (tgt := 161) hx hb dX8_isBroken_157 (by decide) ?_
          exact g_zret hE hG hr hlk dX8_isBroken_161 (by decide) hw

set_option maxHeartbeats 4000000 in
set_option maxRecDepth 100000 in
theorem b_X3_brokenIf_27 {p : Program} {l : Launch} {e : Env} {s : State} {m : MethodId} {args : Array Value} {below : List Frame} {meth : Method} {c : Code} {X : wX} {A : Nat → Prop} (hE : eV p m c cX3_brokenIf 6 s args wsX3_brokenIf RX3 X) (hr : meth.sig.returnType = (some .int)) (hlk : meth.locks = false) {Q : Int32 → St → Prop} : ∀ (n : Nat) (σ : St) (v5 : Int32) (H : Heap) (locs : List Loc) (ls : Array Slot), wl_X3_brokenIf_27 Q n σ v5 → gW X kcL A s.heap σ H locs → lv_has ls 6 [(0, .ref (X.2.1 1)), (5, .int v5)] → W p l e rm_X3_brokenIf s m args below meth c H locs 0 0 (zI X kcL below args s A Q) (F0 m 27 ls []) := by
  have hx := hE.1.1
  have hb := hE.1.2.1
  intro n
  induction n with
  | zero =>
    intro σ v5 H locs ls hw
    exact False.elim hw
  | succ n ih =>
    intro σ v5 H locs ls hw hG hl
    have hw : wB_X3_brokenIf_27 Q (wl_X3_brokenIf_27 Q n) σ v5 := hw
    unfold wB_X3_brokenIf_27 at hw
    refine lv_iload hx hb dX3_brokenIf_27 (lv_at hl 1 rfl) ?_
    refine lv_aload_n hx hb dX3_brokenIf_29 rfl (lv_at hl 0 rfl) ?_
    refine g_get (k := 3) hE hG (kd_lt kc1 (by decide)) (ce_3 kc1) rfl (by decide +kernel) (by decide) (by decide +kernel) rfl rfl dX3_brokenIf_30 ?_
    refine lv_icmp_ge (tgt := 66) hx hb dX3_brokenIf_33 (by decide) (fun hc6 => ?_) (fun hc6 => ?_)
    · have hw := hw.1 hc6
      refine lv_iconst (v := (-1)) hx hb dX3_brokenIf_66 (by decide) ?_
      exact g_iret hE hG hr hlk dX3_brokenIf_67 hw
    · have hw := hw.2 hc6
      refine lv_aload_n hx hb dX3_brokenIf_36 rfl (lv_at hl 0 rfl) ?_
      refine g_get (k := 1) hE hG (kd_lt kc1 (by decide)) (ce_3 kc1) rfl (by decide +kernel) (by decide) (by decide +kernel) rfl rfl dX3_brokenIf_37 ?_
      refine lv_iload hx hb dX3_brokenIf_40 (lv_at hl 1 rfl) ?_
      obtain ⟨hi7, hw⟩ := hw
      refine g_aald (q := (25 + v5.toNatClampNeg)) (t0 := 3) hE hG (kd_lt kc3 (by decide)) (ce_301 kc3) rfl hi7 rfl dX3_brokenIf_42 ?_
      refine lv_aload_n hx hb dX3_brokenIf_43 rfl (lv_at hl 0 rfl) ?_
      refine g_get (k := 2) hE hG (kd_lt kc1 (by decide)) (ce_3 kc1) rfl (by decide +kernel) (by decide) (by decide +kernel) rfl rfl dX3_brokenIf_44 ?_
      refine lv_aload_n hx hb dX3_brokenIf_47 rfl (lv_at hl 0 rfl) ?_
      refine g_get (k := 4) hE hG (kd_lt kc1 (by decide)) (ce_3 kc1) rfl (by decide +kernel) (by decide) (by decide +kernel) rfl rfl dX3_brokenIf_48 ?_
      refine g_calli hG (g_runV (rm := rm_X8_isBroken) (As := [.ref (X.2.1 22), .int (σ 1 4)]) (rest := []) (n := 2) hE hG (m_X8_isBroken l X (kc_laws hi7) kc22 hw _) gX3_brokenIf_X8_isBroken rfl rfl rfl (by decide +kernel) ⟨Nat.le_of_ble_eq_true rfl, Nat.le_of_ble_eq_true rfl⟩ (kd_lt (kc_laws hi7) (by decide)) (ce_8 (kc_laws hi7)) rfl rfl rfl hl.1 (Nat.le_of_ble_eq_true rfl) dX3_brokenIf_51 ⟨Nat.zero_le _, Nat.zero_le _⟩) (fun r8 σ9 H locs hw hG => ?_)
      refine lv_if_eq (tgt := 60) hx hb dX3_brokenIf_54 (by decide) (fun hc10 => ?_) (fun hc10 => ?_)
      · have hw := hw.1 hc10
        obtain ⟨x11, ex11⟩ : ∃ z : Int32, z = v5 + (1 : Int32) := ⟨_, rfl⟩
        have hw := hw x11 ex11
        refine lv_iinc (v := x11) (lv' := [(5, .int x11), (0, .ref (X.2.1 1))]) hx hb dX3_brokenIf_60 hl (k := 1) rfl (by rw [ex11]; rfl) (by decide) rfl (fun ls hl => ?_)
        refine lv_goto (tgt := 27) hx hb dX3_brokenIf_63 (by decide) ?_
        exact ih _ _ _ _ _ hw hG (lv_sub hl [1, 0] rfl)
      · have hw := hw.2 hc10
        refine lv_iload hx hb dX3_brokenIf_57 (lv_at hl 1 rfl) ?_
        exact g_iret hE hG hr hlk dX3_brokenIf_59 hw

set_option maxHeartbeats 4000000 in
set_option maxRecDepth 100000 in
theorem m_X3_brokenIf (l : Launch) (X : wX) {Q : Int32 → St → Prop} {v1 : Int32} {v2 : Int32} {v3 : Int32} {v4 : Int32} {σ : St} (hw : wp_X3_brokenIf Q v1 v2 v3 v4 σ) : mI X kcL l yX3_brokenIf wsX3_brokenIf rm_X3_brokenIf [.ref (X.2.1 1), .int v1, .int v2, .int v3, .int v4] σ Q := by
  refine mI.of (cc := cX3_brokenIf) (maxL := 6) (ret := (some .int)) (by decide +kernel) rfl (Nat.le_of_ble_eq_true rfl) ?_
  intro A p e s m args below meth c ls hE hr hlk hl hG
  have hx := hE.1.1
  have hb := hE.1.2.1
  unfold wp_X3_brokenIf at hw
  have hl : lv_has ls 6 [(0, .ref (X.2.1 1)), (1, .int v1), (2, .int v2), (3, .int v3), (4, .int v4)] := hl
  refine lv_aload_n hx hb dX3_brokenIf_0 rfl (lv_at hl 0 rfl) ?_
  refine g_get (k := 2) hE hG (kd_lt kc1 (by decide)) (ce_3 kc1) rfl (by decide +kernel) (by decide) (by decide +kernel) rfl rfl dX3_brokenIf_1 ?_
  refine lv_aload_n hx hb dX3_brokenIf_4 rfl (lv_at hl 0 rfl) ?_
  refine g_get (k := 0) hE hG (kd_lt kc1 (by decide)) (ce_3 kc1) rfl (by decide +kernel) (by decide) (by decide +kernel) rfl rfl dX3_brokenIf_5 ?_
  refine lv_iload_n hx hb dX3_brokenIf_8 rfl (lv_at hl 1 rfl) ?_
  obtain ⟨hi1, hw⟩ := hw
  refine g_aald (q := (4 + 3 * v1.toNatClampNeg)) (t0 := 2) hE hG (kd_lt kc2 (by decide)) (ce_300 kc2) rfl hi1 rfl dX3_brokenIf_9 ?_
  refine g_callv hG (g_runV (rm := rm_X2_become) (As := [.ref (X.2.1 (4 + 3 * v1.toNatClampNeg))]) (rest := []) (n := 1) hE hG (m_X2_become l X kc22 (kc_rows hi1) hw _) gX3_brokenIf_X2_become rfl rfl rfl (by decide +kernel) ⟨Nat.le_of_ble_eq_true rfl, Nat.le_of_ble_eq_true rfl⟩ (kd_lt kc22 (by decide)) (ce_2 kc22) rfl rfl rfl hl.1 (Nat.le_of_ble_eq_true rfl) dX3_brokenIf_10 ⟨Nat.zero_le _, Nat.zero_le _⟩) (fun σ3 H locs hw hG => ?_)
  refine lv_aload_n hx hb dX3_brokenIf_13 rfl (lv_at hl 0 rfl) ?_
  refine g_get (k := 2) hE hG (kd_lt kc1 (by decide)) (ce_3 kc1) rfl (by decide +kernel) (by decide) (by decide +kernel) rfl rfl dX3_brokenIf_14 ?_
  refine lv_iload_n hx hb dX3_brokenIf_17 rfl (lv_at hl 2 rfl) ?_
  refine lv_iload_n hx hb dX3_brokenIf_18 rfl (lv_at hl 3 rfl) ?_
  refine lv_iload hx hb dX3_brokenIf_19 (lv_at hl 4 rfl) ?_
  refine g_callv hG (g_runV (rm := rm_X2_change) (As := [.int v2, .int v3, .int v4]) (rest := []) (n := 3) hE hG (m_X2_change l X kc22 hw _) gX3_brokenIf_X2_change rfl rfl rfl (by decide +kernel) ⟨Nat.le_of_ble_eq_true rfl, Nat.le_of_ble_eq_true rfl⟩ (kd_lt kc22 (by decide)) (ce_2 kc22) rfl rfl rfl hl.1 (Nat.le_of_ble_eq_true rfl) dX3_brokenIf_21 ⟨Nat.zero_le _, Nat.zero_le _⟩) (fun σ5 H locs hw hG => ?_)
  refine lv_iconst (v := 0) hx hb dX3_brokenIf_24 (by decide) ?_
  refine lv_istore (lv' := [(5, .int (0 : Int32)), (0, .ref (X.2.1 1)), (1, .int v1), (2, .int v2), (3, .int v3), (4, .int v4)]) hx hb dX3_brokenIf_25 hl (by decide) rfl (fun ls hl => ?_)
  obtain ⟨n, hw⟩ := hw
  exact b_X3_brokenIf_27 hE hr hlk n _ _ _ _ _ hw hG (lv_sub hl [1, 0] rfl)

set_option maxHeartbeats 4000000 in
set_option maxRecDepth 100000 in
theorem b_X3_anyBreaks_2 {p : Program} {l : Launch} {e : Env} {s : State} {m : MethodId} {args : Array Value} {below : List Frame} {meth : Method} {c : Code} {X : wX} {A : Nat → Prop} (hE : eV p m c cX3_anyBreaks 4 s args wsX3_anyBreaks RX3 X) (hr : meth.sig.returnType = (some .boolean)) (hlk : meth.locks = false) {Q : Int32 → St → Prop} {v1 : Int32} {v2 : Int32} : ∀ (n : Nat) (σ : St) (v3 : Int32) (H : Heap) (locs : List Loc) (ls : Array Slot), wl_X3_anyBreaks_2 Q v1 v2 n σ v3 → gW X kcL A s.heap σ H locs → lv_has ls 4 [(0, .ref (X.2.1 1)), (1, .int v1), (2, .int v2), (3, .int v3)] → W p l e rm_X3_anyBreaks s m args below meth c H locs 0 0 (zI X kcL below args s A Q) (F0 m 2 ls []) := by
  have hx := hE.1.1
  have hb := hE.1.2.1
  intro n
  induction n with
  | zero =>
    intro σ v3 H locs ls hw
    exact False.elim hw
  | succ n ih =>
    intro σ v3 H locs ls hw hG hl
    have hw : wB_X3_anyBreaks_2 Q (wl_X3_anyBreaks_2 Q v1 v2 n) v1 v2 σ v3 := hw
    unfold wB_X3_anyBreaks_2 at hw
    refine lv_iload_n hx hb dX3_anyBreaks_2 rfl (lv_at hl 3 rfl) ?_
    refine lv_bipush (v := (6)) hx hb dX3_anyBreaks_3 (by decide) ?_
    refine lv_icmp_ge (tgt := 35) hx hb dX3_anyBreaks_5 (by decide) (fun hc1 => ?_) (fun hc1 => ?_)
    · have hw := hw.1 hc1
      refine lv_iconst (v := 0) hx hb dX3_anyBreaks_35 (by decide) ?_
      exact g_zret hE hG hr hlk dX3_anyBreaks_36 (by decide) hw
    · have hw := hw.2 hc1
      refine lv_aload_n hx hb dX3_anyBreaks_8 rfl (lv_at hl 0 rfl) ?_
      refine g_get (k := 1) hE hG (kd_lt kc1 (by decide)) (ce_3 kc1) rfl (by decide +kernel) (by decide) (by decide +kernel) rfl rfl dX3_anyBreaks_9 ?_
      refine lv_iload_n hx hb dX3_anyBreaks_12 rfl (lv_at hl 1 rfl) ?_
      obtain ⟨hi2, hw⟩ := hw
      refine g_aald (q := (25 + v1.toNatClampNeg)) (t0 := 3) hE hG (kd_lt kc3 (by decide)) (ce_301 kc3) rfl hi2 rfl dX3_anyBreaks_13 ?_
      refine lv_aload_n hx hb dX3_anyBreaks_14 rfl (lv_at hl 0 rfl) ?_
      refine g_get (k := 0) hE hG (kd_lt kc1 (by decide)) (ce_3 kc1) rfl (by decide +kernel) (by decide) (by decide +kernel) rfl rfl dX3_anyBreaks_15 ?_
      refine lv_iload_n hx hb dX3_anyBreaks_18 rfl (lv_at hl 3 rfl) ?_
      obtain ⟨hi3, hw⟩ := hw
      refine g_aald (q := (4 + 3 * v3.toNatClampNeg)) (t0 := 2) hE hG (kd_lt kc2 (by decide)) (ce_300 kc2) rfl hi3 rfl dX3_anyBreaks_19 ?_
      refine lv_iload_n hx hb dX3_anyBreaks_20 rfl (lv_at hl 2 rfl) ?_
      refine g_calli hG (g_runV (rm := rm_X8_isBroken) (As := [.ref (X.2.1 (4 + 3 * v3.toNatClampNeg)), .int v2]) (rest := []) (n := 2) hE hG (m_X8_isBroken l X (kc_laws hi2) (kc_rows hi3) hw _) gX3_anyBreaks_X8_isBroken rfl rfl rfl (by decide +kernel) ⟨Nat.le_of_ble_eq_true rfl, Nat.le_of_ble_eq_true rfl⟩ (kd_lt (kc_laws hi2) (by decide)) (ce_8 (kc_laws hi2)) rfl rfl rfl hl.1 (Nat.le_of_ble_eq_true rfl) dX3_anyBreaks_21 ⟨Nat.zero_le _, Nat.zero_le _⟩) (fun r4 σ5 H locs hw hG => ?_)
      refine lv_if_eq (tgt := 29) hx hb dX3_anyBreaks_24 (by decide) (fun hc6 => ?_) (fun hc6 => ?_)
      · have hw := hw.1 hc6
        obtain ⟨x7, ex7⟩ : ∃ z : Int32, z = v3 + (1 : Int32) := ⟨_, rfl⟩
        have hw := hw x7 ex7
        refine lv_iinc (v := x7) (lv' := [(3, .int x7), (0, .ref (X.2.1 1)), (1, .int v1), (2, .int v2)]) hx hb dX3_anyBreaks_29 hl (k := 3) rfl (by rw [ex7]; rfl) (by decide) rfl (fun ls hl => ?_)
        refine lv_goto (tgt := 2) hx hb dX3_anyBreaks_32 (by decide) ?_
        exact ih _ _ _ _ _ hw hG (lv_sub hl [1, 2, 3, 0] rfl)
      · have hw := hw.2 hc6
        refine lv_iconst (v := 1) hx hb dX3_anyBreaks_27 (by decide) ?_
        exact g_zret hE hG hr hlk dX3_anyBreaks_28 (by decide) hw

set_option maxHeartbeats 4000000 in
set_option maxRecDepth 100000 in
theorem m_X3_anyBreaks (l : Launch) (X : wX) {Q : Int32 → St → Prop} {v1 : Int32} {v2 : Int32} {σ : St} (hw : wp_X3_anyBreaks Q v1 v2 σ) : mI X kcL l yX3_anyBreaks wsX3_anyBreaks rm_X3_anyBreaks [.ref (X.2.1 1), .int v1, .int v2] σ Q := by
  refine mI.of (cc := cX3_anyBreaks) (maxL := 4) (ret := (some .boolean)) (by decide +kernel) rfl (Nat.le_of_ble_eq_true rfl) ?_
  intro A p e s m args below meth c ls hE hr hlk hl hG
  have hx := hE.1.1
  have hb := hE.1.2.1
  unfold wp_X3_anyBreaks at hw
  have hl : lv_has ls 4 [(0, .ref (X.2.1 1)), (1, .int v1), (2, .int v2)] := hl
  refine lv_iconst (v := 0) hx hb dX3_anyBreaks_0 (by decide) ?_
  refine lv_istore_n (lv' := [(3, .int (0 : Int32)), (0, .ref (X.2.1 1)), (1, .int v1), (2, .int v2)]) hx hb dX3_anyBreaks_1 rfl hl (by decide) rfl (fun ls hl => ?_)
  obtain ⟨n, hw⟩ := hw
  exact b_X3_anyBreaks_2 hE hr hlk n _ _ _ _ _ hw hG (lv_sub hl [1, 2, 3, 0] rfl)

set_option maxHeartbeats 4000000 in
set_option maxRecDepth 100000 in
theorem b_X3_brokenAt_2 {p : Program} {l : Launch} {e : Env} {s : State} {m : MethodId} {args : Array Value} {below : List Frame} {meth : Method} {c : Code} {X : wX} {A : Nat → Prop} (hE : eV p m c cX3_brokenAt 3 s args wsX3_brokenAt RX3 X) (hr : meth.sig.returnType = (some .int)) (hlk : meth.locks = false) {Q : Int32 → St → Prop} {v1 : Int32} : ∀ (n : Nat) (σ : St) (v2 : Int32) (H : Heap) (locs : List Loc) (ls : Array Slot), wl_X3_brokenAt_2 Q v1 n σ v2 → gW X kcL A s.heap σ H locs → lv_has ls 3 [(0, .ref (X.2.1 1)), (1, .int v1), (2, .int v2)] → W p l e rm_X3_brokenAt s m args below meth c H locs 0 0 (zI X kcL below args s A Q) (F0 m 2 ls []) := by
  have hx := hE.1.1
  have hb := hE.1.2.1
  intro n
  induction n with
  | zero =>
    intro σ v2 H locs ls hw
    exact False.elim hw
  | succ n ih =>
    intro σ v2 H locs ls hw hG hl
    have hw : wB_X3_brokenAt_2 Q (wl_X3_brokenAt_2 Q v1 n) v1 σ v2 := hw
    unfold wB_X3_brokenAt_2 at hw
    refine lv_iload_n hx hb dX3_brokenAt_2 rfl (lv_at hl 2 rfl) ?_
    refine lv_aload_n hx hb dX3_brokenAt_3 rfl (lv_at hl 0 rfl) ?_
    refine g_get (k := 3) hE hG (kd_lt kc1 (by decide)) (ce_3 kc1) rfl (by decide +kernel) (by decide) (by decide +kernel) rfl rfl dX3_brokenAt_4 ?_
    refine lv_icmp_ge (tgt := 27) hx hb dX3_brokenAt_7 (by decide) (fun hc1 => ?_) (fun hc1 => ?_)
    · have hw := hw.1 hc1
      refine lv_iconst (v := (-1)) hx hb dX3_brokenAt_27 (by decide) ?_
      exact g_iret hE hG hr hlk dX3_brokenAt_28 hw
    · have hw := hw.2 hc1
      refine lv_aload_n hx hb dX3_brokenAt_10 rfl (lv_at hl 0 rfl) ?_
      refine lv_iload_n hx hb dX3_brokenAt_11 rfl (lv_at hl 2 rfl) ?_
      refine lv_iload_n hx hb dX3_brokenAt_12 rfl (lv_at hl 1 rfl) ?_
      refine g_calli hG (g_runV (rm := rm_X3_anyBreaks) (As := [.int v2, .int v1]) (rest := []) (n := 2) hE hG (m_X3_anyBreaks l X hw _) gX3_brokenAt_X3_anyBreaks rfl rfl rfl (by decide +kernel) ⟨Nat.le_of_ble_eq_true rfl, Nat.le_of_ble_eq_true rfl⟩ (kd_lt kc1 (by decide)) (ce_3 kc1) rfl rfl rfl hl.1 (Nat.le_of_ble_eq_true rfl) dX3_brokenAt_13 ⟨Nat.zero_le _, Nat.zero_le _⟩) (fun r2 σ3 H locs hw hG => ?_)
      refine lv_if_eq (tgt := 21) hx hb dX3_brokenAt_16 (by decide) (fun hc4 => ?_) (fun hc4 => ?_)
      · have hw := hw.1 hc4
        obtain ⟨x5, ex5⟩ : ∃ z : Int32, z = v2 + (1 : Int32) := ⟨_, rfl⟩
        have hw := hw x5 ex5
        refine lv_iinc (v := x5) (lv' := [(2, .int x5), (0, .ref (X.2.1 1)), (1, .int v1)]) hx hb dX3_brokenAt_21 hl (k := 2) rfl (by rw [ex5]; rfl) (by decide) rfl (fun ls hl => ?_)
        refine lv_goto (tgt := 2) hx hb dX3_brokenAt_24 (by decide) ?_
        exact ih _ _ _ _ _ hw hG (lv_sub hl [1, 2, 0] rfl)
      · have hw := hw.2 hc4
        refine lv_iload_n hx hb dX3_brokenAt_19 rfl (lv_at hl 2 rfl) ?_
        exact g_iret hE hG hr hlk dX3_brokenAt_20 hw

set_option maxHeartbeats 4000000 in
set_option maxRecDepth 100000 in
theorem m_X3_brokenAt (l : Launch) (X : wX) {Q : Int32 → St → Prop} {v1 : Int32} {σ : St} (hw : wp_X3_brokenAt Q v1 σ) : mI X kcL l yX3_brokenAt wsX3_brokenAt rm_X3_brokenAt [.ref (X.2.1 1), .int v1] σ Q := by
  refine mI.of (cc := cX3_brokenAt) (maxL := 3) (ret := (some .int)) (by decide +kernel) rfl (Nat.le_of_ble_eq_true rfl) ?_
  intro A p e s m args below meth c ls hE hr hlk hl hG
  have hx := hE.1.1
  have hb := hE.1.2.1
  unfold wp_X3_brokenAt at hw
  have hl : lv_has ls 3 [(0, .ref (X.2.1 1)), (1, .int v1)] := hl
  refine lv_iconst (v := 0) hx hb dX3_brokenAt_0 (by decide) ?_
  refine lv_istore_n (lv' := [(2, .int (0 : Int32)), (0, .ref (X.2.1 1)), (1, .int v1)]) hx hb dX3_brokenAt_1 rfl hl (by decide) rfl (fun ls hl => ?_)
  obtain ⟨n, hw⟩ := hw
  exact b_X3_brokenAt_2 hE hr hlk n _ _ _ _ _ hw hG (lv_sub hl [1, 2, 0] rfl)

set_option maxHeartbeats 4000000 in
set_option maxRecDepth 100000 in
theorem m_X8_greatestPace (l : Launch) (X : wX) {Q : Int32 → St → Prop} {o0 : Nat} {o1 : Nat} {σ : St} (h_o0 : kcL.getD o0 999 = 8) (h_o1 : kcL.getD o1 999 = 2) (hw : wp_X8_greatestPace Q o0 o1 σ) : mI X kcL l yX8_greatestPace wsX8_greatestPace rm_X8_greatestPace [.ref (X.2.1 o0), .ref (X.2.1 o1)] σ Q := by
  refine mI.of (cc := cX8_greatestPace) (maxL := 2) (ret := (some .int)) (by decide +kernel) rfl (Nat.le_of_ble_eq_true rfl) ?_
  intro A p e s m args below meth c ls hE hr hlk hl hG
  have hx := hE.1.1
  have hb := hE.1.2.1
  unfold wp_X8_greatestPace at hw
  have hl : lv_has ls 2 [(0, .ref (X.2.1 o0)), (1, .ref (X.2.1 o1))] := hl
  refine lv_aload_n hx hb dX8_greatestPace_0 rfl (lv_at hl 0 rfl) ?_
  refine g_get (k := 0) hE hG (kd_lt h_o0 (by decide)) (ce_8 h_o0) rfl (by decide +kernel) (by decide) (by decide +kernel) rfl rfl dX8_greatestPace_1 ?_
  refine lv_iconst (v := 2) hx hb dX8_greatestPace_4 (by decide) ?_
  refine lv_icmp_ne (tgt := 16) hx hb dX8_greatestPace_5 (by decide) (fun hc1 => ?_) (fun hc1 => ?_)
  · have hw := hw.1 hc1
    refine lv_bipush (v := (60)) hx hb dX8_greatestPace_16 (by decide) ?_
    exact g_iret hE hG hr hlk dX8_greatestPace_18 hw
  · have hw := hw.2 hc1
    refine lv_aload_n hx hb dX8_greatestPace_8 rfl (lv_at hl 0 rfl) ?_
    refine g_get (k := 3) hE hG (kd_lt h_o0 (by decide)) (ce_8 h_o0) rfl (by decide +kernel) (by decide) (by decide +kernel) rfl rfl dX8_greatestPace_9 ?_
    refine lv_iconst (v := 1) hx hb dX8_greatestPace_12 (by decide) ?_
    refine lv_icmp_ge (tgt := 19) hx hb dX8_greatestPace_13 (by decide) (fun hc2 => ?_) (fun hc2 => ?_)
    · have hw := hw.1 hc2
      refine lv_aload_n hx hb dX8_greatestPace_19 rfl (lv_at hl 1 rfl) ?_
      refine lv_aload_n hx hb dX8_greatestPace_20 rfl (lv_at hl 0 rfl) ?_
      refine g_get (k := 1) hE hG (kd_lt h_o0 (by decide)) (ce_8 h_o0) rfl (by decide +kernel) (by decide) (by decide +kernel) rfl rfl dX8_greatestPace_21 ?_
      refine g_calli hG (g_runV (rm := rm_X2_length) (As := [.int (σ o0 1)]) (rest := []) (n := 1) hE hG (m_X2_length l X h_o1 hw _) gX8_greatestPace_X2_length rfl rfl rfl (by decide +kernel) ⟨Nat.le_of_ble_eq_true rfl, Nat.le_of_ble_eq_true rfl⟩ (kd_lt h_o1 (by decide)) (ce_2 h_o1) rfl rfl rfl hl.1 (Nat.le_of_ble_eq_true rfl) dX8_greatestPace_24 ⟨Nat.zero_le _, Nat.zero_le _⟩) (fun r3 σ4 H locs hw hG => ?_)
      refine lv_sipush (v := (500)) hx hb dX8_greatestPace_27 (by decide) ?_
      refine lv_imul hx hb dX8_greatestPace_30 ?_
      refine lv_iconst (v := 3) hx hb dX8_greatestPace_31 (by decide) ?_
      refine lv_aload_n hx hb dX8_greatestPace_32 rfl (lv_at hl 0 rfl) ?_
      refine g_get (k := 3) hE hG (kd_lt h_o0 (by decide)) (ce_8 h_o0) rfl (by decide +kernel) (by decide) (by decide +kernel) rfl rfl dX8_greatestPace_33 ?_
      refine lv_imul hx hb dX8_greatestPace_36 ?_
      obtain ⟨hz5, hw⟩ := hw
      refine lv_idiv hx hb dX8_greatestPace_37 hz5 ?_
      exact g_iret hE hG hr hlk dX8_greatestPace_38 hw
    · have hw := hw.2 hc2
      refine lv_bipush (v := (60)) hx hb dX8_greatestPace_16 (by decide) ?_
      exact g_iret hE hG hr hlk dX8_greatestPace_18 hw

