/-! contracts, by program -/
set_option maxHeartbeats 4000000 in
set_option maxRecDepth 100000 in
theorem b_X3_greatestPace_15 {p : Program} {l : Launch} {e : Env} {s : State} {m : MethodId} {args : Array Value} {below : List Frame} {meth : Method} {c : Code} {X : wX} {A : Nat → Prop} (hE : eV p m c cX3_greatestPace 4 s args wsX3_greatestPace RX3 X) (hr : meth.sig.returnType = (some .int)) (hlk : meth.locks = false) {Q : Int32 → St → Prop} {L5 : St → Int32 → Int32 → Prop} {v2 : Int32} (hL5 : ∀ (σ : St) (v1 : Int32) (v2 : Int32) (H : Heap) (locs : List Loc) (ls : Array Slot), L5 σ v1 v2 → gW X kcL A s.heap σ H locs → lv_has ls 4 [(0, .ref (X.2.1 1)), (1, .int v1), (2, .int v2)] → W p l e rm_X3_greatestPace s m args below meth c H locs 0 0 (zI X kcL below args s A Q) (F0 m 5 ls [])) : ∀ (n : Nat) (σ : St) (v1 : Int32) (v3 : Int32) (H : Heap) (locs : List Loc) (ls : Array Slot), wl_X3_greatestPace_15 Q L5 v2 n σ v1 v3 → gW X kcL A s.heap σ H locs → lv_has ls 4 [(0, .ref (X.2.1 1)), (1, .int v1), (2, .int v2), (3, .int v3)] → W p l e rm_X3_greatestPace s m args below meth c H locs 0 0 (zI X kcL below args s A Q) (F0 m 15 ls []) := by
  have hx := hE.1.1
  have hb := hE.1.2.1
  intro n
  induction n with
  | zero =>
    intro σ v1 v3 H locs ls hw
    exact False.elim hw
  | succ n ih =>
    intro σ v1 v3 H locs ls hw hG hl
    have hw : wB_X3_greatestPace_15 Q L5 (wl_X3_greatestPace_15 Q L5 v2 n) v2 σ v1 v3 := hw
    unfold wB_X3_greatestPace_15 at hw
    refine lv_iload_n hx hb dX3_greatestPace_15 rfl (lv_at hl 3 rfl) ?_
    refine lv_bipush (v := (6)) hx hb dX3_greatestPace_16 (by decide) ?_
    refine lv_icmp_ge (tgt := 47) hx hb dX3_greatestPace_18 (by decide) (fun hc2 => ?_) (fun hc2 => ?_)
    · have hw := hw.1 hc2
      obtain ⟨x3, ex3⟩ : ∃ z : Int32, z = v2 + (1 : Int32) := ⟨_, rfl⟩
      have hw := hw x3 ex3
      refine lv_iinc (v := x3) (lv' := [(2, .int x3), (0, .ref (X.2.1 1)), (1, .int v1), (3, .int v3)]) hx hb dX3_greatestPace_47 hl (k := 2) rfl (by rw [ex3]; rfl) (by decide) rfl (fun ls hl => ?_)
      refine lv_goto (tgt := 5) hx hb dX3_greatestPace_50 (by decide) ?_
      exact hL5 _ _ _ _ _ _ hw hG (lv_sub hl [1, 2, 0] rfl)
    · have hw := hw.2 hc2
      refine lv_iload_n hx hb dX3_greatestPace_21 rfl (lv_at hl 1 rfl) ?_
      refine lv_aload_n hx hb dX3_greatestPace_22 rfl (lv_at hl 0 rfl) ?_
      refine g_get (k := 1) hE hG (kd_lt kc1 (by decide)) (ce_3 kc1) rfl (by decide +kernel) (by decide) (by decide +kernel) rfl rfl dX3_greatestPace_23 ?_
      refine lv_iload_n hx hb dX3_greatestPace_26 rfl (lv_at hl 2 rfl) ?_
      obtain ⟨hi4, hw⟩ := hw
      refine g_aald (q := (25 + v2.toNatClampNeg)) (t0 := 3) hE hG (kd_lt kc3 (by decide)) (ce_301 kc3) rfl hi4 rfl dX3_greatestPace_27 ?_
      refine lv_aload_n hx hb dX3_greatestPace_28 rfl (lv_at hl 0 rfl) ?_
      refine g_get (k := 0) hE hG (kd_lt kc1 (by decide)) (ce_3 kc1) rfl (by decide +kernel) (by decide) (by decide +kernel) rfl rfl dX3_greatestPace_29 ?_
      refine lv_iload_n hx hb dX3_greatestPace_32 rfl (lv_at hl 3 rfl) ?_
      obtain ⟨hi5, hw⟩ := hw
      refine g_aald (q := (4 + 3 * v3.toNatClampNeg)) (t0 := 2) hE hG (kd_lt kc2 (by decide)) (ce_300 kc2) rfl hi5 rfl dX3_greatestPace_33 ?_
      refine g_calli hG (g_runV (rm := rm_X8_greatestPace) (As := [.ref (X.2.1 (4 + 3 * v3.toNatClampNeg))]) (rest := [.int v1]) (n := 1) hE hG (m_X8_greatestPace l X (kc_laws hi4) (kc_rows hi5) hw _) gX3_greatestPace_X8_greatestPace rfl rfl rfl (by decide +kernel) ⟨Nat.le_of_ble_eq_true rfl, Nat.le_of_ble_eq_true rfl⟩ (kd_lt (kc_laws hi4) (by decide)) (ce_8 (kc_laws hi4)) rfl rfl rfl hl.1 (Nat.le_of_ble_eq_true rfl) dX3_greatestPace_34 ⟨Nat.zero_le _, Nat.zero_le _⟩) (fun r6 σ7 H locs hw hG => ?_)
      refine va_mmin hx hb (by rw [hl.1]; exact hE.1.2.2.1) hE.1.2.2.2.1 (hE.1.2.2.2.2 _ (by decide +kernel)) (hE.1.2.2.2.2 _ (by decide +kernel)) (hE.1.2.2.2.2 _ (by decide +kernel)) (hE.1.2.2.2.2 _ (by decide +kernel)) (Nat.le_of_ble_eq_true rfl) (Nat.le_of_ble_eq_true rfl) (Nat.zero_le _) (Nat.zero_le _) dX3_greatestPace_37 ?_
      refine lv_topi (fun x8 ex8 => ?_)
      have hw := hw x8 ex8
      refine lv_istore_n (lv' := [(1, .int x8), (0, .ref (X.2.1 1)), (2, .int v2), (3, .int v3)]) hx hb dX3_greatestPace_40 rfl hl (by decide) rfl (fun ls hl => ?_)
      obtain ⟨x9, ex9⟩ : ∃ z : Int32, z = v3 + (1 : Int32) := ⟨_, rfl⟩
      have hw := hw x9 ex9
      refine lv_iinc (v := x9) (lv' := [(3, .int x9), (1, .int x8), (0, .ref (X.2.1 1)), (2, .int v2)]) hx hb dX3_greatestPace_41 hl (k := 3) rfl (by rw [ex9]; rfl) (by decide) rfl (fun ls hl => ?_)
      refine lv_goto (tgt := 15) hx hb dX3_greatestPace_44 (by decide) ?_
      exact ih _ _ _ _ _ _ hw hG (lv_sub hl [2, 1, 3, 0] rfl)

set_option maxHeartbeats 4000000 in
set_option maxRecDepth 100000 in
theorem b_X3_greatestPace_5 {p : Program} {l : Launch} {e : Env} {s : State} {m : MethodId} {args : Array Value} {below : List Frame} {meth : Method} {c : Code} {X : wX} {A : Nat → Prop} (hE : eV p m c cX3_greatestPace 4 s args wsX3_greatestPace RX3 X) (hr : meth.sig.returnType = (some .int)) (hlk : meth.locks = false) {Q : Int32 → St → Prop} : ∀ (n : Nat) (σ : St) (v1 : Int32) (v2 : Int32) (H : Heap) (locs : List Loc) (ls : Array Slot), wl_X3_greatestPace_5 Q n σ v1 v2 → gW X kcL A s.heap σ H locs → lv_has ls 4 [(0, .ref (X.2.1 1)), (1, .int v1), (2, .int v2)] → W p l e rm_X3_greatestPace s m args below meth c H locs 0 0 (zI X kcL below args s A Q) (F0 m 5 ls []) := by
  have hx := hE.1.1
  have hb := hE.1.2.1
  intro n
  induction n with
  | zero =>
    intro σ v1 v2 H locs ls hw
    exact False.elim hw
  | succ n ih =>
    intro σ v1 v2 H locs ls hw hG hl
    have hw : wB_X3_greatestPace_5 Q (wl_X3_greatestPace_5 Q n) σ v1 v2 := hw
    unfold wB_X3_greatestPace_5 at hw
    refine lv_iload_n hx hb dX3_greatestPace_5 rfl (lv_at hl 2 rfl) ?_
    refine lv_aload_n hx hb dX3_greatestPace_6 rfl (lv_at hl 0 rfl) ?_
    refine g_get (k := 3) hE hG (kd_lt kc1 (by decide)) (ce_3 kc1) rfl (by decide +kernel) (by decide) (by decide +kernel) rfl rfl dX3_greatestPace_7 ?_
    refine lv_icmp_ge (tgt := 53) hx hb dX3_greatestPace_10 (by decide) (fun hc1 => ?_) (fun hc1 => ?_)
    · have hw := hw.1 hc1
      refine lv_iload_n hx hb dX3_greatestPace_53 rfl (lv_at hl 1 rfl) ?_
      exact g_iret hE hG hr hlk dX3_greatestPace_54 hw
    · have hw := hw.2 hc1
      refine lv_iconst (v := 0) hx hb dX3_greatestPace_13 (by decide) ?_
      refine lv_istore_n (lv' := [(3, .int (0 : Int32)), (0, .ref (X.2.1 1)), (1, .int v1), (2, .int v2)]) hx hb dX3_greatestPace_14 rfl hl (by decide) rfl (fun ls hl => ?_)
      obtain ⟨n, hw⟩ := hw
      exact b_X3_greatestPace_15 hE hr hlk ih n _ _ _ _ _ _ hw hG (lv_sub hl [1, 2, 3, 0] rfl)

set_option maxHeartbeats 4000000 in
set_option maxRecDepth 100000 in
theorem m_X3_greatestPace (l : Launch) (X : wX) {Q : Int32 → St → Prop} {σ : St} (hw : wp_X3_greatestPace Q σ) : mI X kcL l yX3_greatestPace wsX3_greatestPace rm_X3_greatestPace [.ref (X.2.1 1)] σ Q := by
  refine mI.of (cc := cX3_greatestPace) (maxL := 4) (ret := (some .int)) (by decide +kernel) rfl (Nat.le_of_ble_eq_true rfl) ?_
  intro A p e s m args below meth c ls hE hr hlk hl hG
  have hx := hE.1.1
  have hb := hE.1.2.1
  unfold wp_X3_greatestPace at hw
  have hl : lv_has ls 4 [(0, .ref (X.2.1 1))] := hl
  refine lv_bipush (v := (60)) hx hb dX3_greatestPace_0 (by decide) ?_
  refine lv_istore_n (lv' := [(1, .int (60 : Int32)), (0, .ref (X.2.1 1))]) hx hb dX3_greatestPace_2 rfl hl (by decide) rfl (fun ls hl => ?_)
  refine lv_iconst (v := 0) hx hb dX3_greatestPace_3 (by decide) ?_
  refine lv_istore_n (lv' := [(2, .int (0 : Int32)), (1, .int (60 : Int32)), (0, .ref (X.2.1 1))]) hx hb dX3_greatestPace_4 rfl hl (by decide) rfl (fun ls hl => ?_)
  obtain ⟨n, hw⟩ := hw
  exact b_X3_greatestPace_5 hE hr hlk n _ _ _ _ _ _ hw hG (lv_sub hl [2, 1, 0] rfl)

set_option maxHeartbeats 4000000 in
set_option maxRecDepth 100000 in
theorem m_X4_add (l : Launch) (X : wX) {Q : St → Prop} {o0 : Nat} {v1 : Int32} {v2 : Int32} {σ : St} (h_o0 : kcL.getD o0 999 = 4) (hw : wp_X4_add Q o0 v1 v2 σ) : mV X kcL l yX4_add wsX4_add rm_X4_add [.ref (X.2.1 o0), .int v1, .int v2] σ Q := by
  refine mV.of (cc := cX4_add) (maxL := 3) (ret := none) (by decide +kernel) rfl (Nat.le_of_ble_eq_true rfl) ?_
  intro A p e s m args below meth c ls hE hr hlk hl hG
  have hx := hE.1.1
  have hb := hE.1.2.1
  unfold wp_X4_add at hw
  have hl : lv_has ls 3 [(0, .ref (X.2.1 o0)), (1, .int v1), (2, .int v2)] := hl
  refine lv_aload_n hx hb dX4_add_0 rfl (lv_at hl 0 rfl) ?_
  refine g_get (k := 0) hE hG (kd_lt h_o0 (by decide)) (ce_4 h_o0) rfl (by decide +kernel) (by decide) (by decide +kernel) rfl rfl dX4_add_1 ?_
  refine lv_aload_n hx hb dX4_add_4 rfl (lv_at hl 0 rfl) ?_
  refine g_get (k := 2) hE hG (kd_lt h_o0 (by decide)) (ce_4 h_o0) rfl (by decide +kernel) (by decide) (by decide +kernel) rfl rfl dX4_add_5 ?_
  refine lv_iload_n hx hb dX4_add_8 rfl (lv_at hl 1 rfl) ?_
  obtain ⟨hi1, hw⟩ := hw
  refine g_iast (n := 6) hE hG (kd_lt (kc_deg h_o0) (by decide)) (fun _ => ce_int (kc_deg h_o0) (by decide) (by decide)) hi1 dX4_add_9 (fun σ2 H locs eσ2 hG => ?_)
  have hw := hw σ2 eσ2
  refine lv_aload_n hx hb dX4_add_10 rfl (lv_at hl 0 rfl) ?_
  refine g_get (k := 1) hE hG (kd_lt h_o0 (by decide)) (ce_4 h_o0) rfl (by decide +kernel) (by decide) (by decide +kernel) rfl rfl dX4_add_11 ?_
  refine lv_aload_n hx hb dX4_add_14 rfl (lv_at hl 0 rfl) ?_
  refine g_get (k := 2) hE hG (kd_lt h_o0 (by decide)) (ce_4 h_o0) rfl (by decide +kernel) (by decide) (by decide +kernel) rfl rfl dX4_add_15 ?_
  refine lv_iload_n hx hb dX4_add_18 rfl (lv_at hl 2 rfl) ?_
  obtain ⟨hi3, hw⟩ := hw
  refine g_iast (n := 6) hE hG (kd_lt (kc_plc h_o0) (by decide)) (fun _ => ce_int (kc_plc h_o0) (by decide) (by decide)) hi3 dX4_add_19 (fun σ4 H locs eσ4 hG => ?_)
  have hw := hw σ4 eσ4
  refine lv_aload_n hx hb dX4_add_20 rfl (lv_at hl 0 rfl) ?_
  refine lv_dup hx hb dX4_add_21 rfl ?_
  refine g_get (k := 2) hE hG (kd_lt h_o0 (by decide)) (ce_4 h_o0) rfl (by decide +kernel) (by decide) (by decide +kernel) rfl rfl dX4_add_22 ?_
  refine lv_iconst (v := 1) hx hb dX4_add_25 (by decide) ?_
  refine lv_iadd hx hb dX4_add_26 ?_
  refine g_put (k := 2) (x := ((σ4 o0 2) + (1 : Int32))) (ty := .int) hE hG (kd_lt h_o0 (by decide)) (ce_4 h_o0) (by rw [ce_4 h_o0]; rfl) rfl (by decide +kernel) tyX4 tyX4_ok nmX4 (by decide) (by decide +kernel) rfl rfl (by decide +kernel) rfl rfl (Nat.le_of_ble_eq_true rfl) dX4_add_27 (fun σ5 H locs eσ5 hG => ?_)
  have hw := hw σ5 eσ5
  exact g_vret hE hG hr hlk dX4_add_30 hw

set_option maxHeartbeats 4000000 in
set_option maxRecDepth 100000 in
theorem m_X4_latest (l : Launch) (X : wX) {Q : Int32 → St → Prop} {o0 : Nat} {σ : St} (h_o0 : kcL.getD o0 999 = 4) (hw : wp_X4_latest Q o0 σ) : mI X kcL l yX4_latest wsX4_latest rm_X4_latest [.ref (X.2.1 o0)] σ Q := by
  refine mI.of (cc := cX4_latest) (maxL := 1) (ret := (some .int)) (by decide +kernel) rfl (Nat.le_of_ble_eq_true rfl) ?_
  intro A p e s m args below meth c ls hE hr hlk hl hG
  have hx := hE.1.1
  have hb := hE.1.2.1
  unfold wp_X4_latest at hw
  have hl : lv_has ls 1 [(0, .ref (X.2.1 o0))] := hl
  refine lv_aload_n hx hb dX4_latest_0 rfl (lv_at hl 0 rfl) ?_
  refine g_get (k := 2) hE hG (kd_lt h_o0 (by decide)) (ce_4 h_o0) rfl (by decide +kernel) (by decide) (by decide +kernel) rfl rfl dX4_latest_1 ?_
  refine lv_if_ne (tgt := 11) hx hb dX4_latest_4 (by decide) (fun hc1 => ?_) (fun hc1 => ?_)
  · have hw := hw.1 hc1
    refine lv_aload_n hx hb dX4_latest_11 rfl (lv_at hl 0 rfl) ?_
    refine g_get (k := 0) hE hG (kd_lt h_o0 (by decide)) (ce_4 h_o0) rfl (by decide +kernel) (by decide) (by decide +kernel) rfl rfl dX4_latest_12 ?_
    refine lv_aload_n hx hb dX4_latest_15 rfl (lv_at hl 0 rfl) ?_
    refine g_get (k := 2) hE hG (kd_lt h_o0 (by decide)) (ce_4 h_o0) rfl (by decide +kernel) (by decide) (by decide +kernel) rfl rfl dX4_latest_16 ?_
    refine lv_iconst (v := 1) hx hb dX4_latest_19 (by decide) ?_
    refine lv_isub hx hb dX4_latest_20 ?_
    obtain ⟨hi2, hw⟩ := hw
    refine g_iald (n := 6) hE hG (kd_lt (kc_deg h_o0) (by decide)) (ce_int (kc_deg h_o0) (by decide) (by decide)) hi2 dX4_latest_21 ?_
    exact g_iret hE hG hr hlk dX4_latest_22 hw
  · have hw := hw.2 hc1
    refine lv_iconst (v := (-1)) hx hb dX4_latest_7 (by decide) ?_
    refine lv_goto (tgt := 22) hx hb dX4_latest_8 (by decide) ?_
    exact g_iret hE hG hr hlk dX4_latest_22 hw

set_option maxHeartbeats 4000000 in
set_option maxRecDepth 100000 in
theorem b_X4_lastAhead_13 {p : Program} {l : Launch} {e : Env} {s : State} {m : MethodId} {args : Array Value} {below : List Frame} {meth : Method} {c : Code} {X : wX} {A : Nat → Prop} (hE : eV p m c cX4_lastAhead 4 s args wsX4_lastAhead RX4 X) (hr : meth.sig.returnType = (some .int)) (hlk : meth.locks = false) {Q : Int32 → St → Prop} {o0 : Nat} {v1 : Int32} (h_o0 : kcL.getD o0 999 = 4) : ∀ (n : Nat) (σ : St) (v2 : Int32) (v3 : Int32) (H : Heap) (locs : List Loc) (ls : Array Slot), wl_X4_lastAhead_13 Q o0 v1 n σ v2 v3 → gW X kcL A s.heap σ H locs → lv_has ls 4 [(0, .ref (X.2.1 o0)), (1, .int v1), (2, .int v2), (3, .int v3)] → W p l e rm_X4_lastAhead s m args below meth c H locs 0 0 (zI X kcL below args s A Q) (F0 m 13 ls []) := by
  have hx := hE.1.1
  have hb := hE.1.2.1
  intro n
  induction n with
  | zero =>
    intro σ v2 v3 H locs ls hw
    exact False.elim hw
  | succ n ih =>
    intro σ v2 v3 H locs ls hw hG hl
    have hw : wB_X4_lastAhead_13 Q (wl_X4_lastAhead_13 Q o0 v1 n) o0 v1 σ v2 v3 := hw
    unfold wB_X4_lastAhead_13 at hw
    refine lv_iload_n hx hb dX4_lastAhead_13 rfl (lv_at hl 3 rfl) ?_
    refine lv_aload_n hx hb dX4_lastAhead_14 rfl (lv_at hl 0 rfl) ?_
    refine g_get (k := 2) hE hG (kd_lt h_o0 (by decide)) (ce_4 h_o0) rfl (by decide +kernel) (by decide) (by decide +kernel) rfl rfl dX4_lastAhead_15 ?_
    refine lv_icmp_ge (tgt := 39) hx hb dX4_lastAhead_18 (by decide) (fun hc2 => ?_) (fun hc2 => ?_)
    · have hw := hw.1 hc2
      refine lv_iload_n hx hb dX4_lastAhead_39 rfl (lv_at hl 2 rfl) ?_
      exact g_iret hE hG hr hlk dX4_lastAhead_40 hw
    · have hw := hw.2 hc2
      refine lv_aload_n hx hb dX4_lastAhead_21 rfl (lv_at hl 0 rfl) ?_
      refine g_get (k := 0) hE hG (kd_lt h_o0 (by decide)) (ce_4 h_o0) rfl (by decide +kernel) (by decide) (by decide +kernel) rfl rfl dX4_lastAhead_22 ?_
      refine lv_iload_n hx hb dX4_lastAhead_25 rfl (lv_at hl 3 rfl) ?_
      obtain ⟨hi3, hw⟩ := hw
      refine g_iald (n := 6) hE hG (kd_lt (kc_deg h_o0) (by decide)) (ce_int (kc_deg h_o0) (by decide) (by decide)) hi3 dX4_lastAhead_26 ?_
      refine lv_iload_n hx hb dX4_lastAhead_27 rfl (lv_at hl 1 rfl) ?_
      refine lv_icmp_gt (tgt := 33) hx hb dX4_lastAhead_28 (by decide) (fun hc4 => ?_) (fun hc4 => ?_)
      · have hw := hw.1 hc4
        obtain ⟨x5, ex5⟩ : ∃ z : Int32, z = v3 + (1 : Int32) := ⟨_, rfl⟩
        have hw := hw x5 ex5
        refine lv_iinc (v := x5) (lv' := [(3, .int x5), (0, .ref (X.2.1 o0)), (1, .int v1), (2, .int v2)]) hx hb dX4_lastAhead_33 hl (k := 3) rfl (by rw [ex5]; rfl) (by decide) rfl (fun ls hl => ?_)
        refine lv_goto (tgt := 13) hx hb dX4_lastAhead_36 (by decide) ?_
        exact ih _ _ _ _ _ _ hw hG (lv_sub hl [1, 2, 3, 0] rfl)
      · have hw := hw.2 hc4
        refine lv_iload_n hx hb dX4_lastAhead_31 rfl (lv_at hl 3 rfl) ?_
        refine lv_istore_n (lv' := [(2, .int v3), (0, .ref (X.2.1 o0)), (1, .int v1), (3, .int v3)]) hx hb dX4_lastAhead_32 rfl hl (by decide) rfl (fun ls hl => ?_)
        obtain ⟨x6, ex6⟩ : ∃ z : Int32, z = v3 + (1 : Int32) := ⟨_, rfl⟩
        have hw := hw x6 ex6
        refine lv_iinc (v := x6) (lv' := [(3, .int x6), (2, .int v3), (0, .ref (X.2.1 o0)), (1, .int v1)]) hx hb dX4_lastAhead_33 hl (k := 3) rfl (by rw [ex6]; rfl) (by decide) rfl (fun ls hl => ?_)
        refine lv_goto (tgt := 13) hx hb dX4_lastAhead_36 (by decide) ?_
        exact ih _ _ _ _ _ _ hw hG (lv_sub hl [2, 3, 1, 0] rfl)

set_option maxHeartbeats 4000000 in
set_option maxRecDepth 100000 in
theorem m_X4_lastAhead (l : Launch) (X : wX) {Q : Int32 → St → Prop} {o0 : Nat} {v1 : Int32} {σ : St} (h_o0 : kcL.getD o0 999 = 4) (hw : wp_X4_lastAhead Q o0 v1 σ) : mI X kcL l yX4_lastAhead wsX4_lastAhead rm_X4_lastAhead [.ref (X.2.1 o0), .int v1] σ Q := by
  refine mI.of (cc := cX4_lastAhead) (maxL := 4) (ret := (some .int)) (by decide +kernel) rfl (Nat.le_of_ble_eq_true rfl) ?_
  intro A p e s m args below meth c ls hE hr hlk hl hG
  have hx := hE.1.1
  have hb := hE.1.2.1
  unfold wp_X4_lastAhead at hw
  have hl : lv_has ls 4 [(0, .ref (X.2.1 o0)), (1, .int v1)] := hl
  refine lv_iconst (v := 0) hx hb dX4_lastAhead_0 (by decide) ?_
  refine lv_aload_n hx hb dX4_lastAhead_1 rfl (lv_at hl 0 rfl) ?_
  refine g_get (k := 2) hE hG (kd_lt h_o0 (by decide)) (ce_4 h_o0) rfl (by decide +kernel) (by decide) (by decide +kernel) rfl rfl dX4_lastAhead_2 ?_
  refine lv_iconst (v := 1) hx hb dX4_lastAhead_5 (by decide) ?_
  refine lv_isub hx hb dX4_lastAhead_6 ?_
  refine va_mmax hx hb (by rw [hl.1]; exact hE.1.2.2.1) hE.1.2.2.2.1 (hE.1.2.2.2.2 _ (by decide +kernel)) (hE.1.2.2.2.2 _ (by decide +kernel)) (hE.1.2.2.2.2 _ (by decide +kernel)) (hE.1.2.2.2.2 _ (by decide +kernel)) (Nat.le_of_ble_eq_true rfl) (Nat.le_of_ble_eq_true rfl) (Nat.zero_le _) (Nat.zero_le _) dX4_lastAhead_7 ?_
  refine lv_topi (fun x1 ex1 => ?_)
  have hw := hw x1 ex1
  refine lv_istore_n (lv' := [(2, .int x1), (0, .ref (X.2.1 o0)), (1, .int v1)]) hx hb dX4_lastAhead_10 rfl hl (by decide) rfl (fun ls hl => ?_)
  refine lv_iconst (v := 0) hx hb dX4_lastAhead_11 (by decide) ?_
  refine lv_istore_n (lv' := [(3, .int (0 : Int32)), (2, .int x1), (0, .ref (X.2.1 o0)), (1, .int v1)]) hx hb dX4_lastAhead_12 rfl hl (by decide) rfl (fun ls hl => ?_)
  obtain ⟨n, hw⟩ := hw
  exact b_X4_lastAhead_13 hE hr hlk h_o0 n _ _ _ _ _ _ hw hG (lv_sub hl [2, 3, 1, 0] rfl)

set_option maxHeartbeats 4000000 in
set_option maxRecDepth 100000 in
theorem m_X4_nextInRing (l : Launch) (X : wX) {Q : Int32 → St → Prop} {o0 : Nat} {v1 : Int32} {σ : St} (h_o0 : kcL.getD o0 999 = 4) (hw : wp_X4_nextInRing Q o0 v1 σ) : mI X kcL l yX4_nextInRing wsX4_nextInRing rm_X4_nextInRing [.ref (X.2.1 o0), .int v1] σ Q := by
  refine mI.of (cc := cX4_nextInRing) (maxL := 2) (ret := (some .int)) (by decide +kernel) rfl (Nat.le_of_ble_eq_true rfl) ?_
  intro A p e s m args below meth c ls hE hr hlk hl hG
  have hx := hE.1.1
  have hb := hE.1.2.1
  unfold wp_X4_nextInRing at hw
  have hl : lv_has ls 2 [(0, .ref (X.2.1 o0)), (1, .int v1)] := hl
  refine lv_iload_n hx hb dX4_nextInRing_0 rfl (lv_at hl 1 rfl) ?_
  refine lv_iconst (v := 1) hx hb dX4_nextInRing_1 (by decide) ?_
  refine lv_iadd hx hb dX4_nextInRing_2 ?_
  refine lv_aload_n hx hb dX4_nextInRing_3 rfl (lv_at hl 0 rfl) ?_
  refine g_get (k := 2) hE hG (kd_lt h_o0 (by decide)) (ce_4 h_o0) rfl (by decide +kernel) (by decide) (by decide +kernel) rfl rfl dX4_nextInRing_4 ?_
  refine lv_icmp_ge (tgt := 16) hx hb dX4_nextInRing_7 (by decide) (fun hc1 => ?_) (fun hc1 => ?_)
  · have hw := hw.1 hc1
    refine lv_iconst (v := 0) hx hb dX4_nextInRing_16 (by decide) ?_
    exact g_iret hE hG hr hlk dX4_nextInRing_17 hw
  · have hw := hw.2 hc1
    refine lv_iload_n hx hb dX4_nextInRing_10 rfl (lv_at hl 1 rfl) ?_
    refine lv_iconst (v := 1) hx hb dX4_nextInRing_11 (by decide) ?_
    refine lv_iadd hx hb dX4_nextInRing_12 ?_
    refine lv_goto (tgt := 17) hx hb dX4_nextInRing_13 (by decide) ?_
    exact g_iret hE hG hr hlk dX4_nextInRing_17 hw

set_option maxHeartbeats 4000000 in
set_option maxRecDepth 100000 in
theorem m_X4_below (l : Launch) (X : wX) {Q : Int32 → St → Prop} {o0 : Nat} {v1 : Int32} {σ : St} (h_o0 : kcL.getD o0 999 = 4) (hw : wp_X4_below Q o0 v1 σ) : mI X kcL l yX4_below wsX4_below rm_X4_below [.ref (X.2.1 o0), .int v1] σ Q := by
  refine mI.of (cc := cX4_below) (maxL := 4) (ret := (some .int)) (by decide +kernel) rfl (Nat.le_of_ble_eq_true rfl) ?_
  intro A p e s m args below meth c ls hE hr hlk hl hG
  have hx := hE.1.1
  have hb := hE.1.2.1
  unfold wp_X4_below at hw
  have hl : lv_has ls 4 [(0, .ref (X.2.1 o0)), (1, .int v1)] := hl
  refine lv_aload_n hx hb dX4_below_0 rfl (lv_at hl 0 rfl) ?_
  refine lv_iload_n hx hb dX4_below_1 rfl (lv_at hl 1 rfl) ?_
  refine g_calli hG (g_runV (rm := rm_X4_lastAhead) (As := [.int v1]) (rest := []) (n := 1) hE hG (m_X4_lastAhead l X h_o0 hw _) gX4_below_X4_lastAhead rfl rfl rfl (by decide +kernel) ⟨Nat.le_of_ble_eq_true rfl, Nat.le_of_ble_eq_true rfl⟩ (kd_lt h_o0 (by decide)) (ce_4 h_o0) rfl rfl rfl hl.1 (Nat.le_of_ble_eq_true rfl) dX4_below_2 ⟨Nat.zero_le _, Nat.zero_le _⟩) (fun r1 σ2 H locs hw hG => ?_)
  refine lv_istore_n (lv' := [(2, .int r1), (0, .ref (X.2.1 o0)), (1, .int v1)]) hx hb dX4_below_5 rfl hl (by decide) rfl (fun ls hl => ?_)
  refine lv_aload_n hx hb dX4_below_6 rfl (lv_at hl 1 rfl) ?_
  refine g_get (k := 0) hE hG (kd_lt h_o0 (by decide)) (ce_4 h_o0) rfl (by decide +kernel) (by decide) (by decide +kernel) rfl rfl dX4_below_7 ?_
  refine lv_iload_n hx hb dX4_below_10 rfl (lv_at hl 0 rfl) ?_
  obtain ⟨hi3, hw⟩ := hw
  refine g_iald (n := 6) hE hG (kd_lt (kc_deg h_o0) (by decide)) (ce_int (kc_deg h_o0) (by decide) (by decide)) hi3 dX4_below_11 ?_
  refine lv_aload_n hx hb dX4_below_12 rfl (lv_at hl 1 rfl) ?_
  refine g_get (k := 0) hE hG (kd_lt h_o0 (by decide)) (ce_4 h_o0) rfl (by decide +kernel) (by decide) (by decide +kernel) rfl rfl dX4_below_13 ?_
  refine lv_aload_n hx hb dX4_below_16 rfl (lv_at hl 1 rfl) ?_
  refine lv_iload_n hx hb dX4_below_17 rfl (lv_at hl 0 rfl) ?_
  refine g_calli hG (g_runV (rm := rm_X4_nextInRing) (As := [.int r1]) (rest := [.ref (X.2.1 (o0 + 1)), .int (σ2 (o0 + 1) r1.toNatClampNeg)]) (n := 1) hE hG (m_X4_nextInRing l X h_o0 hw _) gX4_below_X4_nextInRing rfl rfl rfl (by decide +kernel) ⟨Nat.le_of_ble_eq_true rfl, Nat.le_of_ble_eq_true rfl⟩ (kd_lt h_o0 (by decide)) (ce_4 h_o0) rfl rfl rfl hl.1 (Nat.le_of_ble_eq_true rfl) dX4_below_18 ⟨Nat.zero_le _, Nat.zero_le _⟩) (fun r4 σ5 H locs hw hG => ?_)
  obtain ⟨hi6, hw⟩ := hw
  refine g_iald (n := 6) hE hG (kd_lt (kc_deg h_o0) (by decide)) (ce_int (kc_deg h_o0) (by decide) (by decide)) hi6 dX4_below_21 ?_
  refine g_calli hG (g_runN (rm := rm_X9_wayUp) (As := [.int (σ2 (o0 + 1) r1.toNatClampNeg), .int (σ5 (o0 + 1) r4.toNatClampNeg)]) (rest := []) (n := 2) hE hG (m_X9_wayUp l X hw _) gX4_below_X9_wayUp_n32 rfl rfl rfl hE.2.2.2.2.1 (by decide +kernel) (by decide +kernel) (by decide +kernel) ⟨Nat.le_of_ble_eq_true rfl, Nat.le_of_ble_eq_true rfl⟩ rfl hl.1 (Nat.le_of_ble_eq_true rfl) dX4_below_22 ⟨Nat.zero_le _, Nat.zero_le _⟩) (fun r7 σ8 H locs hw hG => ?_)
  refine lv_istore_n (lv' := [(3, .int r7), (2, .int r1), (0, .ref (X.2.1 o0)), (1, .int v1)]) hx hb dX4_below_25 rfl hl (by decide) rfl (fun ls hl => ?_)
  refine lv_iload_n hx hb dX4_below_26 rfl (lv_at hl 0 rfl) ?_
  refine lv_if_ne (tgt := 36) hx hb dX4_below_27 (by decide) (fun hc9 => ?_) (fun hc9 => ?_)
  · have hw := hw.1 hc9
    refine lv_iload_n hx hb dX4_below_36 rfl (lv_at hl 0 rfl) ?_
    exact g_iret hE hG hr hlk dX4_below_37 hw
  · have hw := hw.2 hc9
    refine lv_sipush (v := (360)) hx hb dX4_below_30 (by decide) ?_
    refine lv_goto (tgt := 37) hx hb dX4_below_33 (by decide) ?_
    exact g_iret hE hG hr hlk dX4_below_37 hw

set_option maxHeartbeats 4000000 in
set_option maxRecDepth 100000 in
theorem m_X4_above (l : Launch) (X : wX) {Q : Int32 → St → Prop} {o0 : Nat} {v1 : Int32} {σ : St} (h_o0 : kcL.getD o0 999 = 4) (hw : wp_X4_above Q o0 v1 σ) : mI X kcL l yX4_above wsX4_above rm_X4_above [.ref (X.2.1 o0), .int v1] σ Q := by
  refine mI.of (cc := cX4_above) (maxL := 4) (ret := (some .int)) (by decide +kernel) rfl (Nat.le_of_ble_eq_true rfl) ?_
  intro A p e s m args below meth c ls hE hr hlk hl hG
  have hx := hE.1.1
  have hb := hE.1.2.1
  unfold wp_X4_above at hw
  have hl : lv_has ls 4 [(0, .ref (X.2.1 o0)), (1, .int v1)] := hl
  refine lv_aload_n hx hb dX4_above_0 rfl (lv_at hl 0 rfl) ?_
  refine lv_iload_n hx hb dX4_above_1 rfl (lv_at hl 1 rfl) ?_
  refine g_calli hG (g_runV (rm := rm_X4_lastAhead) (As := [.int v1]) (rest := []) (n := 1) hE hG (m_X4_lastAhead l X h_o0 hw _) gX4_above_X4_lastAhead rfl rfl rfl (by decide +kernel) ⟨Nat.le_of_ble_eq_true rfl, Nat.le_of_ble_eq_true rfl⟩ (kd_lt h_o0 (by decide)) (ce_4 h_o0) rfl rfl rfl hl.1 (Nat.le_of_ble_eq_true rfl) dX4_above_2 ⟨Nat.zero_le _, Nat.zero_le _⟩) (fun r1 σ2 H locs hw hG => ?_)
  refine lv_istore_n (lv' := [(2, .int r1), (0, .ref (X.2.1 o0)), (1, .int v1)]) hx hb dX4_above_5 rfl hl (by decide) rfl (fun ls hl => ?_)
  refine lv_aload_n hx hb dX4_above_6 rfl (lv_at hl 1 rfl) ?_
  refine g_get (k := 1) hE hG (kd_lt h_o0 (by decide)) (ce_4 h_o0) rfl (by decide +kernel) (by decide) (by decide +kernel) rfl rfl dX4_above_7 ?_
  refine lv_aload_n hx hb dX4_above_10 rfl (lv_at hl 1 rfl) ?_
  refine lv_iload_n hx hb dX4_above_11 rfl (lv_at hl 0 rfl) ?_
  refine g_calli hG (g_runV (rm := rm_X4_nextInRing) (As := [.int r1]) (rest := [.ref (X.2.1 (o0 + 2))]) (n := 1) hE hG (m_X4_nextInRing l X h_o0 hw _) gX4_above_X4_nextInRing rfl rfl rfl (by decide +kernel) ⟨Nat.le_of_ble_eq_true rfl, Nat.le_of_ble_eq_true rfl⟩ (kd_lt h_o0 (by decide)) (ce_4 h_o0) rfl rfl rfl hl.1 (Nat.le_of_ble_eq_true rfl) dX4_above_12 ⟨Nat.zero_le _, Nat.zero_le _⟩) (fun r3 σ4 H locs hw hG => ?_)
  obtain ⟨hi5, hw⟩ := hw
  refine g_iald (n := 6) hE hG (kd_lt (kc_plc h_o0) (by decide)) (ce_int (kc_plc h_o0) (by decide) (by decide)) hi5 dX4_above_15 ?_
  refine lv_aload_n hx hb dX4_above_16 rfl (lv_at hl 1 rfl) ?_
  refine g_get (k := 1) hE hG (kd_lt h_o0 (by decide)) (ce_4 h_o0) rfl (by decide +kernel) (by decide) (by decide +kernel) rfl rfl dX4_above_17 ?_
  refine lv_iload_n hx hb dX4_above_20 rfl (lv_at hl 0 rfl) ?_
  obtain ⟨hi6, hw⟩ := hw
  refine g_iald (n := 6) hE hG (kd_lt (kc_plc h_o0) (by decide)) (ce_int (kc_plc h_o0) (by decide) (by decide)) hi6 dX4_above_21 ?_
  refine lv_isub hx hb dX4_above_22 ?_
  refine lv_topi (fun x7 ex7 => ?_)
  have hw := hw x7 ex7
  refine lv_istore_n (lv' := [(3, .int x7), (2, .int r1), (0, .ref (X.2.1 o0)), (1, .int v1)]) hx hb dX4_above_23 rfl hl (by decide) rfl (fun ls hl => ?_)
  refine lv_aload_n hx hb dX4_above_24 rfl (lv_at hl 2 rfl) ?_
  refine g_get (k := 1) hE hG (kd_lt h_o0 (by decide)) (ce_4 h_o0) rfl (by decide +kernel) (by decide) (by decide +kernel) rfl rfl dX4_above_25 ?_
  refine lv_iload_n hx hb dX4_above_28 rfl (lv_at hl 1 rfl) ?_
  obtain ⟨hi8, hw⟩ := hw
  refine g_iald (n := 6) hE hG (kd_lt (kc_plc h_o0) (by decide)) (ce_int (kc_plc h_o0) (by decide) (by decide)) hi8 dX4_above_29 ?_
  refine lv_aload_n hx hb dX4_above_30 rfl (lv_at hl 2 rfl) ?_
  refine lv_iload_n hx hb dX4_above_31 rfl (lv_at hl 3 rfl) ?_
  refine g_calli hG (g_runV (rm := rm_X4_below) (As := [.int v1]) (rest := [.int (σ4 (o0 + 2) r1.toNatClampNeg)]) (n := 1) hE hG (m_X4_below l X h_o0 hw _) gX4_above_X4_below rfl rfl rfl (by decide +kernel) ⟨Nat.le_of_ble_eq_true rfl, Nat.le_of_ble_eq_true rfl⟩ (kd_lt h_o0 (by decide)) (ce_4 h_o0) rfl rfl rfl hl.1 (Nat.le_of_ble_eq_true rfl) dX4_above_32 ⟨Nat.zero_le _, Nat.zero_le _⟩) (fun r9 σ10 H locs hw hG => ?_)
  refine lv_imul hx hb dX4_above_35 ?_
  refine lv_iload_n hx hb dX4_above_36 rfl (lv_at hl 0 rfl) ?_
  refine lv_aload_n hx hb dX4_above_37 rfl (lv_at hl 2 rfl) ?_
  refine g_get (k := 0) hE hG (kd_lt h_o0 (by decide)) (ce_4 h_o0) rfl (by decide +kernel) (by decide) (by decide +kernel) rfl rfl dX4_above_38 ?_
  refine lv_iload_n hx hb dX4_above_41 rfl (lv_at hl 1 rfl) ?_
  obtain ⟨hi11, hw⟩ := hw
  refine g_iald (n := 6) hE hG (kd_lt (kc_deg h_o0) (by decide)) (ce_int (kc_deg h_o0) (by decide) (by decide)) hi11 dX4_above_42 ?_
  refine lv_iload_n hx hb dX4_above_43 rfl (lv_at hl 3 rfl) ?_
  refine g_calli hG (g_runN (rm := rm_X9_wayUp) (As := [.int (σ10 (o0 + 1) r1.toNatClampNeg), .int v1]) (rest := [.int x7, .int ((σ4 (o0 + 2) r1.toNatClampNeg) * r9)]) (n := 2) hE hG (m_X9_wayUp l X hw _) gX4_above_X9_wayUp_n32 rfl rfl rfl hE.2.2.2.2.1 (by decide +kernel) (by decide +kernel) (by decide +kernel) ⟨Nat.le_of_ble_eq_true rfl, Nat.le_of_ble_eq_true rfl⟩ rfl hl.1 (Nat.le_of_ble_eq_true rfl) dX4_above_44 ⟨Nat.zero_le _, Nat.zero_le _⟩) (fun r12 σ13 H locs hw hG => ?_)
  refine lv_imul hx hb dX4_above_47 ?_
  refine lv_iadd hx hb dX4_above_48 ?_
  exact g_iret hE hG hr hlk dX4_above_49 hw

set_option maxHeartbeats 4000000 in
set_option maxRecDepth 100000 in
theorem b_X5_sectionOf_2 {p : Program} {l : Launch} {e : Env} {s : State} {m : MethodId} {args : Array Value} {below : List Frame} {meth : Method} {c : Code} {X : wX} {A : Nat → Prop} (hE : eV p m c cX5_sectionOf 3 s args wsX5_sectionOf RX5 X) (hr : meth.sig.returnType = (some .int)) (hlk : meth.locks = false) {Q : Int32 → St → Prop} {v1 : Int32} : ∀ (n : Nat) (σ : St) (v2 : Int32) (H : Heap) (locs : List Loc) (ls : Array Slot), wl_X5_sectionOf_2 Q v1 n σ v2 → gW X kcL A s.heap σ H locs → lv_has ls 3 [(0, .ref (X.2.1 57)), (1, .int v1), (2, .int v2)] → W p l e rm_X5_sectionOf s m args below meth c H locs 0 0 (zI X kcL below args s A Q) (F0 m 2 ls []) := by
  have hx := hE.1.1
  have hb := hE.1.2.1
  intro n
  induction n with
  | zero =>
    intro σ v2 H locs ls hw
    exact False.elim hw
  | succ n ih =>
    intro σ v2 H locs ls hw hG hl
    have hw : wB_X5_sectionOf_2 Q (wl_X5_sectionOf_2 Q v1 n) v1 σ v2 := hw
    unfold wB_X5_sectionOf_2 at hw
    refine lv_iload_n hx hb dX5_sectionOf_2 rfl (lv_at hl 2 rfl) ?_
    refine lv_bipush (v := (6)) hx hb dX5_sectionOf_3 (by decide) ?_
    refine lv_icmp_ge (tgt := 26) hx hb dX5_sectionOf_5 (by decide) (fun hc1 => ?_) (fun hc1 => ?_)
    · have hw := hw.1 hc1
      refine lv_iconst (v := (-1)) hx hb dX5_sectionOf_26 (by decide) ?_
      exact g_iret hE hG hr hlk dX5_sectionOf_27 hw
    · have hw := hw.2 hc1
      refine lv_aload_n hx hb dX5_sectionOf_8 rfl (lv_at hl 0 rfl) ?_
      refine g_get (k := 5) hE hG (kd_lt kc57 (by decide)) (ce_5 kc57) rfl (by decide +kernel) (by decide) (by decide +kernel) rfl rfl dX5_sectionOf_9 ?_
      refine lv_iload_n hx hb dX5_sectionOf_12 rfl (lv_at hl 2 rfl) ?_
      obtain ⟨hi2, hw⟩ := hw
      refine g_iald (n := 6) hE hG (kd_lt kc63 (by decide)) (ce_int kc63 (by decide) (by decide)) hi2 dX5_sectionOf_13 ?_
      refine lv_iload_n hx hb dX5_sectionOf_14 rfl (lv_at hl 1 rfl) ?_
      refine lv_icmp_ne (tgt := 20) hx hb dX5_sectionOf_15 (by decide) (fun hc3 => ?_) (fun hc3 => ?_)
      · have hw := hw.1 hc3
        obtain ⟨x4, ex4⟩ : ∃ z : Int32, z = v2 + (1 : Int32) := ⟨_, rfl⟩
        have hw := hw x4 ex4
        refine lv_iinc (v := x4) (lv' := [(2, .int x4), (0, .ref (X.2.1 57)), (1, .int v1)]) hx hb dX5_sectionOf_20 hl (k := 2) rfl (by rw [ex4]; rfl) (by decide) rfl (fun ls hl => ?_)
        refine lv_goto (tgt := 2) hx hb dX5_sectionOf_23 (by decide) ?_
        exact ih _ _ _ _ _ hw hG (lv_sub hl [1, 2, 0] rfl)
      · have hw := hw.2 hc3
        refine lv_iload_n hx hb dX5_sectionOf_18 rfl (lv_at hl 2 rfl) ?_
        exact g_iret hE hG hr hlk dX5_sectionOf_19 hw

set_option maxHeartbeats 4000000 in
set_option maxRecDepth 100000 in
theorem m_X5_sectionOf (l : Launch) (X : wX) {Q : Int32 → St → Prop} {v1 : Int32} {σ : St} (hw : wp_X5_sectionOf Q v1 σ) : mI X kcL l yX5_sectionOf wsX5_sectionOf rm_X5_sectionOf [.ref (X.2.1 57), .int v1] σ Q := by
  refine mI.of (cc := cX5_sectionOf) (maxL := 3) (ret := (some .int)) (by decide +kernel) rfl (Nat.le_of_ble_eq_true rfl) ?_
  intro A p e s m args below meth c ls hE hr hlk hl hG
  have hx := hE.1.1
  have hb := hE.1.2.1
  unfold wp_X5_sectionOf at hw
  have hl : lv_has ls 3 [(0, .ref (X.2.1 57)), (1, .int v1)] := hl
  refine lv_iconst (v := 0) hx hb dX5_sectionOf_0 (by decide) ?_
  refine lv_istore_n (lv' := [(2, .int (0 : Int32)), (0, .ref (X.2.1 57)), (1, .int v1)]) hx hb dX5_sectionOf_1 rfl hl (by decide) rfl (fun ls hl => ?_)
  obtain ⟨n, hw⟩ := hw
  exact b_X5_sectionOf_2 hE hr hlk n _ _ _ _ _ hw hG (lv_sub hl [1, 2, 0] rfl)

set_option maxHeartbeats 4000000 in
set_option maxRecDepth 100000 in
theorem m_X5_makeNew (l : Launch) (X : wX) {Q : St → Prop} {v1 : Int32} {σ : St} (hw : wp_X5_makeNew Q v1 σ) : mV X kcL l yX5_makeNew wsX5_makeNew rm_X5_makeNew [.ref (X.2.1 57), .int v1] σ Q := by
  refine mV.of (cc := cX5_makeNew) (maxL := 2) (ret := none) (by decide +kernel) rfl (Nat.le_of_ble_eq_true rfl) ?_
  intro A p e s m args below meth c ls hE hr hlk hl hG
  have hx := hE.1.1
  have hb := hE.1.2.1
  unfold wp_X5_makeNew at hw
  have hl : lv_has ls 2 [(0, .ref (X.2.1 57)), (1, .int v1)] := hl
  refine lv_aload_n hx hb dX5_makeNew_0 rfl (lv_at hl 0 rfl) ?_
  refine g_get (k := 0) hE hG (kd_lt kc57 (by decide)) (ce_5 kc57) rfl (by decide +kernel) (by decide) (by decide +kernel) rfl rfl dX5_makeNew_1 ?_
  refine lv_iload_n hx hb dX5_makeNew_4 rfl (lv_at hl 1 rfl) ?_
  refine lv_iconst (v := 0) hx hb dX5_makeNew_5 (by decide) ?_
  obtain ⟨hi1, hw⟩ := hw
  refine g_iast (n := 30) hE hG (kd_lt kc58 (by decide)) (fun _ => ce_int kc58 (by decide) (by decide)) hi1 dX5_makeNew_6 (fun σ2 H locs eσ2 hG => ?_)
  have hw := hw σ2 eσ2
  refine lv_aload_n hx hb dX5_makeNew_7 rfl (lv_at hl 0 rfl) ?_
  refine g_get (k := 1) hE hG (kd_lt kc57 (by decide)) (ce_5 kc57) rfl (by decide +kernel) (by decide) (by decide +kernel) rfl rfl dX5_makeNew_8 ?_
  refine lv_iload_n hx hb dX5_makeNew_11 rfl (lv_at hl 1 rfl) ?_
  refine lv_iconst (v := 0) hx hb dX5_makeNew_12 (by decide) ?_
  obtain ⟨hi3, hw⟩ := hw
  refine g_iast (n := 30) hE hG (kd_lt kc59 (by decide)) (fun _ => ce_int kc59 (by decide) (by decide)) hi3 dX5_makeNew_13 (fun σ4 H locs eσ4 hG => ?_)
  have hw := hw σ4 eσ4
  refine lv_aload_n hx hb dX5_makeNew_14 rfl (lv_at hl 0 rfl) ?_
  refine g_get (k := 2) hE hG (kd_lt kc57 (by decide)) (ce_5 kc57) rfl (by decide +kernel) (by decide) (by decide +kernel) rfl rfl dX5_makeNew_15 ?_
  refine lv_iload_n hx hb dX5_makeNew_18 rfl (lv_at hl 1 rfl) ?_
  refine lv_iconst (v := 0) hx hb dX5_makeNew_19 (by decide) ?_
  obtain ⟨hi5, hw⟩ := hw
  refine g_zast (n := 30) hE hG (kd_lt kc60 (by decide)) (fun _ => ce_230 kc60) hi5 dX5_makeNew_20 (fun σ6 H locs eσ6 hG => ?_)
  have hw := hw σ6 eσ6
  exact g_vret hE hG hr hlk dX5_makeNew_21 hw

set_option maxHeartbeats 4000000 in
set_option maxRecDepth 100000 in
theorem m_X5_enter (l : Launch) (X : wX) {Q : St → Prop} {v1 : Int32} {v2 : Int32} {σ : St} (hw : wp_X5_enter Q v1 v2 σ) : mV X kcL l yX5_enter wsX5_enter rm_X5_enter [.ref (X.2.1 57), .int v1, .int v2] σ Q := by
  refine mV.of (cc := cX5_enter) (maxL := 3) (ret := none) (by decide +kernel) rfl (Nat.le_of_ble_eq_true rfl) ?_
  intro A p e s m args below meth c ls hE hr hlk hl hG
  have hx := hE.1.1
  have hb := hE.1.2.1
  unfold wp_X5_enter at hw
  have hl : lv_has ls 3 [(0, .ref (X.2.1 57)), (1, .int v1), (2, .int v2)] := hl
  refine lv_iload_n hx hb dX5_enter_0 rfl (lv_at hl 2 rfl) ?_
  refine lv_if_eq (tgt := 17) hx hb dX5_enter_1 (by decide) (fun hc1 => ?_) (fun hc1 => ?_)
  · have hw := hw.1 hc1
    refine lv_aload_n hx hb dX5_enter_17 rfl (lv_at hl 0 rfl) ?_
    refine g_get (k := 4) hE hG (kd_lt kc57 (by decide)) (ce_5 kc57) rfl (by decide +kernel) (by decide) (by decide +kernel) rfl rfl dX5_enter_18 ?_
    refine lv_iload_n hx hb dX5_enter_21 rfl (lv_at hl 1 rfl) ?_
    refine lv_dup2_11 hx hb dX5_enter_22 rfl rfl ?_
    obtain ⟨hi2, hw⟩ := hw
    refine g_iald (n := 30) hE hG (kd_lt kc62 (by decide)) (ce_int kc62 (by decide) (by decide)) hi2 dX5_enter_23 ?_
    refine lv_iconst (v := 1) hx hb dX5_enter_24 (by decide) ?_
    refine lv_iadd hx hb dX5_enter_25 ?_
    obtain ⟨hi3, hw⟩ := hw
    refine g_iast (n := 30) hE hG (kd_lt kc62 (by decide)) (fun _ => ce_int kc62 (by decide) (by decide)) hi3 dX5_enter_26 (fun σ4 H locs eσ4 hG => ?_)
    have hw := hw σ4 eσ4
    exact g_vret hE hG hr hlk dX5_enter_27 hw
  · have hw := hw.2 hc1
    refine lv_aload_n hx hb dX5_enter_4 rfl (lv_at hl 0 rfl) ?_
    refine g_get (k := 3) hE hG (kd_lt kc57 (by decide)) (ce_5 kc57) rfl (by decide +kernel) (by decide) (by decide +kernel) rfl rfl dX5_enter_5 ?_
    refine lv_iload_n hx hb dX5_enter_8 rfl (lv_at hl 1 rfl) ?_
    refine lv_dup2_11 hx hb dX5_enter_9 rfl rfl ?_
    obtain ⟨hi5, hw⟩ := hw
    refine g_iald (n := 30) hE hG (kd_lt kc61 (by decide)) (ce_int kc61 (by decide) (by decide)) hi5 dX5_enter_10 ?_
    refine lv_iconst (v := 1) hx hb dX5_enter_11 (by decide) ?_
    refine lv_iadd hx hb dX5_enter_12 ?_
    obtain ⟨hi6, hw⟩ := hw
    refine g_iast (n := 30) hE hG (kd_lt kc61 (by decide)) (fun _ => ce_int kc61 (by decide) (by decide)) hi6 dX5_enter_13 (fun σ7 H locs eσ7 hG => ?_)
    have hw := hw σ7 eσ7
    refine lv_goto (tgt := 27) hx hb dX5_enter_14 (by decide) ?_
    exact g_vret hE hG hr hlk dX5_enter_27 hw

set_option maxHeartbeats 4000000 in
set_option maxRecDepth 100000 in
theorem b_X6_find_2 {p : Program} {l : Launch} {e : Env} {s : State} {m : MethodId} {args : Array Value} {below : List Frame} {meth : Method} {c : Code} {X : wX} {A : Nat → Prop} (hE : eV p m c cX6_find 3 s args wsX6_find RX6 X) (hr : meth.sig.returnType = (some .int)) (hlk : meth.locks = false) {Q : Int32 → St → Prop} {v1 : Int32} : ∀ (n : Nat) (σ : St) (v2 : Int32) (H : Heap) (locs : List Loc) (ls : Array Slot), wl_X6_find_2 Q v1 n σ v2 → gW X kcL A s.heap σ H locs → lv_has ls 3 [(0, .ref (X.2.1 55)), (1, .int v1), (2, .int v2)] → W p l e rm_X6_find s m args below meth c H locs 0 0 (zI X kcL below args s A Q) (F0 m 2 ls []) := by
  have hx := hE.1.1
  have hb := hE.1.2.1
  intro n
  induction n with
  | zero =>
    intro σ v2 H locs ls hw
    exact False.elim hw
  | succ n ih =>
    intro σ v2 H locs ls hw hG hl
    have hw : wB_X6_find_2 Q (wl_X6_find_2 Q v1 n) v1 σ v2 := hw
    unfold wB_X6_find_2 at hw
    refine lv_iload_n hx hb dX6_find_2 rfl (lv_at hl 2 rfl) ?_
    refine lv_aload_n hx hb dX6_find_3 rfl (lv_at hl 0 rfl) ?_
    refine g_get (k := 2) hE hG (kd_lt kc55 (by decide)) (ce_6 kc55) rfl (by decide +kernel) (by decide) (by decide +kernel) rfl rfl dX6_find_4 ?_
    refine lv_icmp_ge (tgt := 28) hx hb dX6_find_7 (by decide) (fun hc1 => ?_) (fun hc1 => ?_)
    · have hw := hw.1 hc1
      refine lv_iconst (v := (-1)) hx hb dX6_find_28 (by decide) ?_
      exact g_iret hE hG hr hlk dX6_find_29 hw
    · have hw := hw.2 hc1
      refine lv_aload_n hx hb dX6_find_10 rfl (lv_at hl 0 rfl) ?_
      refine g_get (k := 0) hE hG (kd_lt kc55 (by decide)) (ce_6 kc55) rfl (by decide +kernel) (by decide) (by decide +kernel) rfl rfl dX6_find_11 ?_
      refine lv_iload_n hx hb dX6_find_14 rfl (lv_at hl 2 rfl) ?_
      obtain ⟨hi2, hw⟩ := hw
      refine g_iald (n := 6) hE hG (kd_lt kc56 (by decide)) (ce_int kc56 (by decide) (by decide)) hi2 dX6_find_15 ?_
      refine lv_iload_n hx hb dX6_find_16 rfl (lv_at hl 1 rfl) ?_
      refine lv_icmp_ne (tgt := 22) hx hb dX6_find_17 (by decide) (fun hc3 => ?_) (fun hc3 => ?_)
      · have hw := hw.1 hc3
        obtain ⟨x4, ex4⟩ : ∃ z : Int32, z = v2 + (1 : Int32) := ⟨_, rfl⟩
        have hw := hw x4 ex4
        refine lv_iinc (v := x4) (lv' := [(2, .int x4), (0, .ref (X.2.1 55)), (1, .int v1)]) hx hb dX6_find_22 hl (k := 2) rfl (by rw [ex4]; rfl) (by decide) rfl (fun ls hl => ?_)
        refine lv_goto (tgt := 2) hx hb dX6_find_25 (by decide) ?_
        exact ih _ _ _ _ _ hw hG (lv_sub hl [1, 2, 0] rfl)
      · have hw := hw.2 hc3
        refine lv_iload_n hx hb dX6_find_20 rfl (lv_at hl 2 rfl) ?_
        exact g_iret hE hG hr hlk dX6_find_21 hw

set_option maxHeartbeats 4000000 in
set_option maxRecDepth 100000 in
theorem m_X6_find (l : Launch) (X : wX) {Q : Int32 → St → Prop} {v1 : Int32} {σ : St} (hw : wp_X6_find Q v1 σ) : mI X kcL l yX6_find wsX6_find rm_X6_find [.ref (X.2.1 55), .int v1] σ Q := by
  refine mI.of (cc := cX6_find) (maxL := 3) (ret := (some .int)) (by decide +kernel) rfl (Nat.le_of_ble_eq_true rfl) ?_
  intro A p e s m args below meth c ls hE hr hlk hl hG
  have hx := hE.1.1
  have hb := hE.1.2.1
  unfold wp_X6_find at hw
  have hl : lv_has ls 3 [(0, .ref (X.2.1 55)), (1, .int v1)] := hl
  refine lv_iconst (v := 0) hx hb dX6_find_0 (by decide) ?_
  refine lv_istore_n (lv' := [(2, .int (0 : Int32)), (0, .ref (X.2.1 55)), (1, .int v1)]) hx hb dX6_find_1 rfl hl (by decide) rfl (fun ls hl => ?_)
  obtain ⟨n, hw⟩ := hw
  exact b_X6_find_2 hE hr hlk n _ _ _ _ _ hw hG (lv_sub hl [1, 2, 0] rfl)

set_option maxHeartbeats 4000000 in
set_option maxRecDepth 100000 in
theorem b_X6_leave_60 {p : Program} {l : Launch} {e : Env} {s : State} {m : MethodId} {args : Array Value} {below : List Frame} {meth : Method} {c : Code} {X : wX} {A : Nat → Prop} {H : Heap} {locs : List Loc} {ls : Array Slot} {σ : St} (hE : eV p m c cX6_leave 3 s args wsX6_leave RX6 X) (hr : meth.sig.returnType = none) (hlk : meth.locks = false) {Q : St → Prop} (hw : wb_X6_leave_60 Q σ) (hG : gW X kcL A s.heap σ H locs) (hl : lv_has ls 3 [(0, .ref (X.2.1 55))]) : W p l e rm_X6_leave s m args below meth c H locs 0 0 (zV X kcL below args s A Q) (F0 m 60 ls []) := by
  have hx := hE.1.1
  have hb := hE.1.2.1
  unfold wb_X6_leave_60 at hw
  refine lv_aload_n hx hb dX6_leave_60 rfl (lv_at hl 0 rfl) ?_
  refine g_get (k := 1) hE hG (kd_lt kc55 (by decide)) (ce_6 kc55) rfl (by decide +kernel) (by decide) (by decide +kernel) rfl rfl dX6_leave_61 ?_
  refine lv_aload_n hx hb dX6_leave_64 rfl (lv_at hl 0 rfl) ?_
  refine g_get (k := 2) hE hG (kd_lt kc55 (by decide)) (ce_6 kc55) rfl (by decide +kernel) (by decide) (by decide +kernel) rfl rfl dX6_leave_65 ?_
  refine lv_icmp_lt (tgt := 76) hx hb dX6_leave_68 (by decide) (fun hc4 => ?_) (fun hc4 => ?_)
  · have hw := hw.1 hc4
    exact g_vret hE hG hr hlk dX6_leave_76 hw
  · have hw := hw.2 hc4
    refine lv_aload_n hx hb dX6_leave_71 rfl (lv_at hl 0 rfl) ?_
    refine lv_iconst (v := 0) hx hb dX6_leave_72 (by decide) ?_
    refine g_put (k := 1) (x := (0 : Int32)) (ty := .int) hE hG (kd_lt kc55 (by decide)) (ce_6 kc55) (by rw [ce_6 kc55]; rfl) rfl (by decide +kernel) tyX6 tyX6_ok nmX6 (by decide) (by decide +kernel) rfl rfl (by decide +kernel) rfl rfl (Nat.le_of_ble_eq_true rfl) dX6_leave_73 (fun σ5 H locs eσ5 hG => ?_)
    have hw := hw σ5 eσ5
    exact g_vret hE hG hr hlk dX6_leave_76 hw

set_option maxHeartbeats 4000000 in
set_option maxRecDepth 100000 in
theorem b_X6_leave_2 {p : Program} {l : Launch} {e : Env} {s : State} {m : MethodId} {args : Array Value} {below : List Frame} {meth : Method} {c : Code} {X : wX} {A : Nat → Prop} (hE : eV p m c cX6_leave 3 s args wsX6_leave RX6 X) (hr : meth.sig.returnType = none) (hlk : meth.locks = false) {Q : St → Prop} {v1 : Int32} : ∀ (n : Nat) (σ : St) (v2 : Int32) (H : Heap) (locs : List Loc) (ls : Array Slot), wl_X6_leave_2 Q v1 n σ v2 → gW X kcL A s.heap σ H locs → lv_has ls 3 [(0, .ref (X.2.1 55)), (1, .int v1), (2, .int v2)] → W p l e rm_X6_leave s m args below meth c H locs 0 0 (zV X kcL below args s A Q) (F0 m 2 ls []) := by
  have hx := hE.1.1
  have hb := hE.1.2.1
  intro n
  induction n with
  | zero =>
    intro σ v2 H locs ls hw
    exact False.elim hw
  | succ n ih =>
    intro σ v2 H locs ls hw hG hl
    have hw : wB_X6_leave_2 Q (wl_X6_leave_2 Q v1 n) v1 σ v2 := hw
    unfold wB_X6_leave_2 at hw
    refine lv_iload_n hx hb dX6_leave_2 rfl (lv_at hl 2 rfl) ?_
    refine lv_iconst (v := 1) hx hb dX6_leave_3 (by decide) ?_
    refine lv_iadd hx hb dX6_leave_4 ?_
    refine lv_aload_n hx hb dX6_leave_5 rfl (lv_at hl 0 rfl) ?_
    refine g_get (k := 2) hE hG (kd_lt kc55 (by decide)) (ce_6 kc55) rfl (by decide +kernel) (by decide) (by decide +kernel) rfl rfl dX6_leave_6 ?_
    refine lv_icmp_ge (tgt := 32) hx hb dX6_leave_9 (by decide) (fun hc1 => ?_) (fun hc1 => ?_)
    · have hw := hw.1 hc1
      refine lv_aload_n hx hb dX6_leave_32 rfl (lv_at hl 0 rfl) ?_
      refine lv_dup hx hb dX6_leave_33 rfl ?_
      refine g_get (k := 2) hE hG (kd_lt kc55 (by decide)) (ce_6 kc55) rfl (by decide +kernel) (by decide) (by decide +kernel) rfl rfl dX6_leave_34 ?_
      refine lv_iconst (v := 1) hx hb dX6_leave_37 (by decide) ?_
      refine lv_isub hx hb dX6_leave_38 ?_
      refine g_put (k := 2) (x := ((σ 55 2) - (1 : Int32))) (ty := .int) hE hG (kd_lt kc55 (by decide)) (ce_6 kc55) (by rw [ce_6 kc55]; rfl) rfl (by decide +kernel) tyX6 tyX6_ok nmX6 (by decide) (by decide +kernel) rfl rfl (by decide +kernel) rfl rfl (Nat.le_of_ble_eq_true rfl) dX6_leave_39 (fun σ2 H locs eσ2 hG => ?_)
      have hw := hw σ2 eσ2
      refine lv_iload_n hx hb dX6_leave_42 rfl (lv_at hl 1 rfl) ?_
      refine lv_aload_n hx hb dX6_leave_43 rfl (lv_at hl 0 rfl) ?_
      refine g_get (k := 1) hE hG (kd_lt kc55 (by decide)) (ce_6 kc55) rfl (by decide +kernel) (by decide) (by decide +kernel) rfl rfl dX6_leave_44 ?_
      refine lv_icmp_ge (tgt := 60) hx hb dX6_leave_47 (by decide) (fun hc3 => ?_) (fun hc3 => ?_)
      · have hw := hw.1 hc3
        exact b_X6_leave_60 hE hr hlk hw hG (lv_sub hl [0] rfl)
      · have hw := hw.2 hc3
        refine lv_aload_n hx hb dX6_leave_50 rfl (lv_at hl 0 rfl) ?_
        refine lv_dup hx hb dX6_leave_51 rfl ?_
        refine g_get (k := 1) hE hG (kd_lt kc55 (by decide)) (ce_6 kc55) rfl (by decide +kernel) (by decide) (by decide +kernel) rfl rfl dX6_leave_52 ?_
        refine lv_iconst (v := 1) hx hb dX6_leave_55 (by decide) ?_
        refine lv_isub hx hb dX6_leave_56 ?_
        refine g_put (k := 1) (x := ((σ2 55 1) - (1 : Int32))) (ty := .int) hE hG (kd_lt kc55 (by decide)) (ce_6 kc55) (by rw [ce_6 kc55]; rfl) rfl (by decide +kernel) tyX6 tyX6_ok nmX6 (by decide) (by decide +kernel) rfl rfl (by decide +kernel) rfl rfl (Nat.le_of_ble_eq_true rfl) dX6_leave_57 (fun σ6 H locs eσ6 hG => ?_)
        have hw := hw σ6 eσ6
        exact b_X6_leave_60 hE hr hlk hw hG (lv_sub hl [0] rfl)
    · have hw := hw.2 hc1
      refine lv_aload_n hx hb dX6_leave_12 rfl (lv_at hl 0 rfl) ?_
      refine g_get (k := 0) hE hG (kd_lt kc55 (by decide)) (ce_6 kc55) rfl (by decide +kernel) (by decide) (by decide +kernel) rfl rfl dX6_leave_13 ?_
      refine lv_iload_n hx hb dX6_leave_16 rfl (lv_at hl 2 rfl) ?_
      refine lv_aload_n hx hb dX6_leave_17 rfl (lv_at hl 0 rfl) ?_
      refine g_get (k := 0) hE hG (kd_lt kc55 (by decide)) (ce_6 kc55) rfl (by decide +kernel) (by decide) (by decide +kernel) rfl rfl dX6_leave_18 ?_
      refine lv_iload_n hx hb dX6_leave_21 rfl (lv_at hl 2 rfl) ?_
      refine lv_iconst (v := 1) hx hb dX6_leave_22 (by decide) ?_
      refine lv_iadd hx hb dX6_leave_23 ?_
      obtain ⟨hi7, hw⟩ := hw
      refine g_iald (n := 6) hE hG (kd_lt kc56 (by decide)) (ce_int kc56 (by decide) (by decide)) hi7 dX6_leave_24 ?_
      obtain ⟨hi8, hw⟩ := hw
      refine g_iast (n := 6) hE hG (kd_lt kc56 (by decide)) (fun _ => ce_int kc56 (by decide) (by decide)) hi8 dX6_leave_25 (fun σ9 H locs eσ9 hG => ?_)
      have hw := hw σ9 eσ9
      obtain ⟨x10, ex10⟩ : ∃ z : Int32, z = v2 + (1 : Int32) := ⟨_, rfl⟩
      have hw := hw x10 ex10
      refine lv_iinc (v := x10) (lv' := [(2, .int x10), (0, .ref (X.2.1 55)), (1, .int v1)]) hx hb dX6_leave_26 hl (k := 2) rfl (by rw [ex10]; rfl) (by decide) rfl (fun ls hl => ?_)
      refine lv_goto (tgt := 2) hx hb dX6_leave_29 (by decide) ?_
      exact ih _ _ _ _ _ hw hG (lv_sub hl [1, 2, 0] rfl)

set_option maxHeartbeats 4000000 in
set_option maxRecDepth 100000 in
theorem m_X6_leave (l : Launch) (X : wX) {Q : St → Prop} {v1 : Int32} {σ : St} (hw : wp_X6_leave Q v1 σ) : mV X kcL l yX6_leave wsX6_leave rm_X6_leave [.ref (X.2.1 55), .int v1] σ Q := by
  refine mV.of (cc := cX6_leave) (maxL := 3) (ret := none) (by decide +kernel) rfl (Nat.le_of_ble_eq_true rfl) ?_
  intro A p e s m args below meth c ls hE hr hlk hl hG
  have hx := hE.1.1
  have hb := hE.1.2.1
  unfold wp_X6_leave at hw
  have hl : lv_has ls 3 [(0, .ref (X.2.1 55)), (1, .int v1)] := hl
  refine lv_iload_n hx hb dX6_leave_0 rfl (lv_at hl 1 rfl) ?_
  refine lv_istore_n (lv' := [(2, .int v1), (0, .ref (X.2.1 55)), (1, .int v1)]) hx hb dX6_leave_1 rfl hl (by decide) rfl (fun ls hl => ?_)
  obtain ⟨n, hw⟩ := hw
  exact b_X6_leave_2 hE hr hlk n _ _ _ _ _ hw hG (lv_sub hl [1, 2, 0] rfl)

set_option maxHeartbeats 4000000 in
set_option maxRecDepth 100000 in
theorem m_X6_join (l : Launch) (X : wX) {Q : St → Prop} {v1 : Int32} {σ : St} (hw : wp_X6_join Q v1 σ) : mV X kcL l yX6_join wsX6_join rm_X6_join [.ref (X.2.1 55), .int v1] σ Q := by
  refine mV.of (cc := cX6_join) (maxL := 2) (ret := none) (by decide +kernel) rfl (Nat.le_of_ble_eq_true rfl) ?_
  intro A p e s m args below meth c ls hE hr hlk hl hG
  have hx := hE.1.1
  have hb := hE.1.2.1
  unfold wp_X6_join at hw
  have hl : lv_has ls 2 [(0, .ref (X.2.1 55)), (1, .int v1)] := hl
  refine lv_aload_n hx hb dX6_join_0 rfl (lv_at hl 0 rfl) ?_
  refine g_get (k := 0) hE hG (kd_lt kc55 (by decide)) (ce_6 kc55) rfl (by decide +kernel) (by decide) (by decide +kernel) rfl rfl dX6_join_1 ?_
  refine lv_aload_n hx hb dX6_join_4 rfl (lv_at hl 0 rfl) ?_
  refine g_get (k := 2) hE hG (kd_lt kc55 (by decide)) (ce_6 kc55) rfl (by decide +kernel) (by decide) (by decide +kernel) rfl rfl dX6_join_5 ?_
  refine lv_iload_n hx hb dX6_join_8 rfl (lv_at hl 1 rfl) ?_
  obtain ⟨hi1, hw⟩ := hw
  refine g_iast (n := 6) hE hG (kd_lt kc56 (by decide)) (fun _ => ce_int kc56 (by decide) (by decide)) hi1 dX6_join_9 (fun σ2 H locs eσ2 hG => ?_)
  have hw := hw σ2 eσ2
  refine lv_aload_n hx hb dX6_join_10 rfl (lv_at hl 0 rfl) ?_
  refine lv_dup hx hb dX6_join_11 rfl ?_
  refine g_get (k := 2) hE hG (kd_lt kc55 (by decide)) (ce_6 kc55) rfl (by decide +kernel) (by decide) (by decide +kernel) rfl rfl dX6_join_12 ?_
  refine lv_iconst (v := 1) hx hb dX6_join_15 (by decide) ?_
  refine lv_iadd hx hb dX6_join_16 ?_
  refine g_put (k := 2) (x := ((σ2 55 2) + (1 : Int32))) (ty := .int) hE hG (kd_lt kc55 (by decide)) (ce_6 kc55) (by rw [ce_6 kc55]; rfl) rfl (by decide +kernel) tyX6 tyX6_ok nmX6 (by decide) (by decide +kernel) rfl rfl (by decide +kernel) rfl rfl (Nat.le_of_ble_eq_true rfl) dX6_join_17 (fun σ3 H locs eσ3 hG => ?_)
  have hw := hw σ3 eσ3
  exact g_vret hE hG hr hlk dX6_join_20 hw

set_option maxHeartbeats 4000000 in
set_option maxRecDepth 100000 in
theorem m_X6_next (l : Launch) (X : wX) {Q : Int32 → St → Prop} {σ : St} (hw : wp_X6_next Q σ) : mI X kcL l yX6_next wsX6_next rm_X6_next [.ref (X.2.1 55)] σ Q := by
  refine mI.of (cc := cX6_next) (maxL := 1) (ret := (some .int)) (by decide +kernel) rfl (Nat.le_of_ble_eq_true rfl) ?_
  intro A p e s m args below meth c ls hE hr hlk hl hG
  have hx := hE.1.1
  have hb := hE.1.2.1
  unfold wp_X6_next at hw
  have hl : lv_has ls 1 [(0, .ref (X.2.1 55))] := hl
  refine lv_aload_n hx hb dX6_next_0 rfl (lv_at hl 0 rfl) ?_
  refine g_get (k := 2) hE hG (kd_lt kc55 (by decide)) (ce_6 kc55) rfl (by decide +kernel) (by decide) (by decide +kernel) rfl rfl dX6_next_1 ?_
  refine lv_if_ne (tgt := 11) hx hb dX6_next_4 (by decide) (fun hc1 => ?_) (fun hc1 => ?_)
  · have hw := hw.1 hc1
    refine lv_aload_n hx hb dX6_next_11 rfl (lv_at hl 0 rfl) ?_
    refine g_get (k := 0) hE hG (kd_lt kc55 (by decide)) (ce_6 kc55) rfl (by decide +kernel) (by decide) (by decide +kernel) rfl rfl dX6_next_12 ?_
    refine lv_aload_n hx hb dX6_next_15 rfl (lv_at hl 0 rfl) ?_
    refine g_get (k := 1) hE hG (kd_lt kc55 (by decide)) (ce_6 kc55) rfl (by decide +kernel) (by decide) (by decide +kernel) rfl rfl dX6_next_16 ?_
    obtain ⟨hi2, hw⟩ := hw
    refine g_iald (n := 6) hE hG (kd_lt kc56 (by decide)) (ce_int kc56 (by decide) (by decide)) hi2 dX6_next_19 ?_
    exact g_iret hE hG hr hlk dX6_next_20 hw
  · have hw := hw.2 hc1
    refine lv_iconst (v := (-1)) hx hb dX6_next_7 (by decide) ?_
    refine lv_goto (tgt := 20) hx hb dX6_next_8 (by decide) ?_
    exact g_iret hE hG hr hlk dX6_next_20 hw

set_option maxHeartbeats 4000000 in
set_option maxRecDepth 100000 in
theorem m_X6_pass (l : Launch) (X : wX) {Q : St → Prop} {σ : St} (hw : wp_X6_pass Q σ) : mV X kcL l yX6_pass wsX6_pass rm_X6_pass [.ref (X.2.1 55)] σ Q := by
  refine mV.of (cc := cX6_pass) (maxL := 1) (ret := none) (by decide +kernel) rfl (Nat.le_of_ble_eq_true rfl) ?_
  intro A p e s m args below meth c ls hE hr hlk hl hG
  have hx := hE.1.1
  have hb := hE.1.2.1
  unfold wp_X6_pass at hw
  have hl : lv_has ls 1 [(0, .ref (X.2.1 55))] := hl
  refine lv_aload_n hx hb dX6_pass_0 rfl (lv_at hl 0 rfl) ?_
  refine lv_aload_n hx hb dX6_pass_1 rfl (lv_at hl 0 rfl) ?_
  refine g_get (k := 1) hE hG (kd_lt kc55 (by decide)) (ce_6 kc55) rfl (by decide +kernel) (by decide) (by decide +kernel) rfl rfl dX6_pass_2 ?_
  refine lv_iconst (v := 1) hx hb dX6_pass_5 (by decide) ?_
  refine lv_iadd hx hb dX6_pass_6 ?_
  refine lv_aload_n hx hb dX6_pass_7 rfl (lv_at hl 0 rfl) ?_
  refine g_get (k := 2) hE hG (kd_lt kc55 (by decide)) (ce_6 kc55) rfl (by decide +kernel) (by decide) (by decide +kernel) rfl rfl dX6_pass_8 ?_
  refine lv_icmp_ge (tgt := 23) hx hb dX6_pass_11 (by decide) (fun hc1 => ?_) (fun hc1 => ?_)
  · have hw := hw.1 hc1
    refine lv_iconst (v := 0) hx hb dX6_pass_23 (by decide) ?_
    refine g_put (k := 1) (x := (0 : Int32)) (ty := .int) hE hG (kd_lt kc55 (by decide)) (ce_6 kc55) (by rw [ce_6 kc55]; rfl) rfl (by decide +kernel) tyX6 tyX6_ok nmX6 (by decide) (by decide +kernel) rfl rfl (by decide +kernel) rfl rfl (Nat.le_of_ble_eq_true rfl) dX6_pass_24 (fun σ2 H locs eσ2 hG => ?_)
    have hw := hw σ2 eσ2
    exact g_vret hE hG hr hlk dX6_pass_27 hw
  · have hw := hw.2 hc1
    refine lv_aload_n hx hb dX6_pass_14 rfl (lv_at hl 0 rfl) ?_
    refine g_get (k := 1) hE hG (kd_lt kc55 (by decide)) (ce_6 kc55) rfl (by decide +kernel) (by decide) (by decide +kernel) rfl rfl dX6_pass_15 ?_
    refine lv_iconst (v := 1) hx hb dX6_pass_18 (by decide) ?_
    refine lv_iadd hx hb dX6_pass_19 ?_
    refine lv_goto (tgt := 24) hx hb dX6_pass_20 (by decide) ?_
    refine g_put (k := 1) (x := ((σ 55 1) + (1 : Int32))) (ty := .int) hE hG (kd_lt kc55 (by decide)) (ce_6 kc55) (by rw [ce_6 kc55]; rfl) rfl (by decide +kernel) tyX6 tyX6_ok nmX6 (by decide) (by decide +kernel) rfl rfl (by decide +kernel) rfl rfl (Nat.le_of_ble_eq_true rfl) dX6_pass_24 (fun σ3 H locs eσ3 hG => ?_)
    have hw := hw σ3 eσ3
    exact g_vret hE hG hr hlk dX6_pass_27 hw

set_option maxHeartbeats 4000000 in
set_option maxRecDepth 100000 in
theorem m_X7_swapWithTold (l : Launch) (X : wX) {Q : St → Prop} {v1 : Int32} {σ : St} (hw : wp_X7_swapWithTold Q v1 σ) : mV X kcL l yX7_swapWithTold wsX7_swapWithTold rm_X7_swapWithTold [.ref (X.2.1 41), .int v1] σ Q := by
  refine mV.of (cc := cX7_swapWithTold) (maxL := 3) (ret := none) (by decide +kernel) rfl (Nat.le_of_ble_eq_true rfl) ?_
  intro A p e s m args below meth c ls hE hr hlk hl hG
  have hx := hE.1.1
  have hb := hE.1.2.1
  unfold wp_X7_swapWithTold at hw
  have hl : lv_has ls 3 [(0, .ref (X.2.1 41)), (1, .int v1)] := hl
  refine lv_aload_n hx hb dX7_swapWithTold_0 rfl (lv_at hl 0 rfl) ?_
  refine g_get (k := 0) hE hG (kd_lt kc41 (by decide)) (ce_7 kc41) rfl (by decide +kernel) (by decide) (by decide +kernel) rfl rfl dX7_swapWithTold_1 ?_
  refine lv_iload_n hx hb dX7_swapWithTold_4 rfl (lv_at hl 1 rfl) ?_
  obtain ⟨hi1, hw⟩ := hw
  obtain ⟨hk2, hw⟩ := hw
  refine g_aald (q := ((σ 42 v1.toNatClampNeg).toNatClampNeg)) (t0 := 4) hE hG (kd_lt kc42 (by decide)) (ce_302 kc42) rfl hi1 rfl dX7_swapWithTold_5 ?_
  refine lv_astore_n (lv' := [(2, .ref (X.2.1 ((σ 42 v1.toNatClampNeg).toNatClampNeg))), (0, .ref (X.2.1 41)), (1, .int v1)]) hx hb dX7_swapWithTold_6 rfl hl (by decide) rfl (fun ls hl => ?_)
  refine lv_aload_n hx hb dX7_swapWithTold_7 rfl (lv_at hl 1 rfl) ?_
  refine g_get (k := 0) hE hG (kd_lt kc41 (by decide)) (ce_7 kc41) rfl (by decide +kernel) (by decide) (by decide +kernel) rfl rfl dX7_swapWithTold_8 ?_
  refine lv_iload_n hx hb dX7_swapWithTold_11 rfl (lv_at hl 2 rfl) ?_
  refine lv_aload_n hx hb dX7_swapWithTold_12 rfl (lv_at hl 1 rfl) ?_
  refine g_get (k := 1) hE hG (kd_lt kc41 (by decide)) (ce_7 kc41) rfl (by decide +kernel) (by decide) (by decide +kernel) rfl rfl dX7_swapWithTold_13 ?_
  obtain ⟨hk3, hw⟩ := hw
  obtain ⟨hi4, hw⟩ := hw
  refine g_arms hE hG kc42 hk3 hi4 dX7_swapWithTold_16 (fun σ5 H locs eσ5 hG => ?_)
  have hw := hw σ5 eσ5
  refine lv_aload_n hx hb dX7_swapWithTold_17 rfl (lv_at hl 1 rfl) ?_
  refine lv_aload_n hx hb dX7_swapWithTold_18 rfl (lv_at hl 0 rfl) ?_
  refine g_put (k := 1) (x := (σ 42 v1.toNatClampNeg)) (ty := .object "GobRow$Knots") hE hG (kd_lt kc41 (by decide)) (ce_7 kc41) (by rw [ce_7 kc41]; rfl) rfl (by decide +kernel) tyX7 tyX7_ok nmX7 (by decide) (by decide +kernel) rfl rfl (by decide +kernel) rfl rfl (Nat.le_of_ble_eq_true rfl) dX7_swapWithTold_19 (fun σ6 H locs eσ6 hG => ?_)
  have hw := hw σ6 eσ6
  exact g_vret hE hG hr hlk dX7_swapWithTold_22 hw

set_option maxHeartbeats 4000000 in
set_option maxRecDepth 100000 in
theorem m_X7_isClearAt (l : Launch) (X : wX) {Q : Int32 → St → Prop} {o0 : Nat} {o1 : Nat} {v2 : Int32} {σ : St} (h_o0 : kcL.getD o0 999 = 4) (h_o1 : kcL.getD o1 999 = 4) (hw : wp_X7_isClearAt Q o0 o1 v2 σ) : mI X kcL l yX7_isClearAt wsX7_isClearAt rm_X7_isClearAt [.ref (X.2.1 o0), .ref (X.2.1 o1), .int v2] σ Q := by
  refine mI.of (cc := cX7_isClearAt) (maxL := 6) (ret := (some .boolean)) (by decide +kernel) rfl (Nat.le_of_ble_eq_true rfl) ?_
  intro A p e s m args below meth c ls hE hr hlk hl hG
  have hx := hE.1.1
  have hb := hE.1.2.1
  unfold wp_X7_isClearAt at hw
  have hl : lv_has ls 6 [(0, .ref (X.2.1 o0)), (1, .ref (X.2.1 o1)), (2, .int v2)] := hl
  refine lv_aload_n hx hb dX7_isClearAt_0 rfl (lv_at hl 0 rfl) ?_
  refine lv_iload_n hx hb dX7_isClearAt_1 rfl (lv_at hl 2 rfl) ?_
  refine g_calli hG (g_runV (rm := rm_X4_below) (As := [.int v2]) (rest := []) (n := 1) hE hG (m_X4_below l X h_o0 hw _) gX7_isClearAt_X4_below rfl rfl rfl (by decide +kernel) ⟨Nat.le_of_ble_eq_true rfl, Nat.le_of_ble_eq_true rfl⟩ (kd_lt h_o0 (by decide)) (ce_4 h_o0) rfl rfl rfl hl.1 (Nat.le_of_ble_eq_true rfl) dX7_isClearAt_2 ⟨Nat.zero_le _, Nat.zero_le _⟩) (fun r1 σ2 H locs hw hG => ?_)
  refine lv_istore_n (lv' := [(3, .int r1), (0, .ref (X.2.1 o0)), (1, .ref (X.2.1 o1)), (2, .int v2)]) hx hb dX7_isClearAt_5 rfl hl (by decide) rfl (fun ls hl => ?_)
  refine lv_aload_n hx hb dX7_isClearAt_6 rfl (lv_at hl 1 rfl) ?_
  refine lv_iload_n hx hb dX7_isClearAt_7 rfl (lv_at hl 3 rfl) ?_
  refine g_calli hG (g_runV (rm := rm_X4_above) (As := [.int v2]) (rest := []) (n := 1) hE hG (m_X4_above l X h_o0 hw _) gX7_isClearAt_X4_above rfl rfl rfl (by decide +kernel) ⟨Nat.le_of_ble_eq_true rfl, Nat.le_of_ble_eq_true rfl⟩ (kd_lt h_o0 (by decide)) (ce_4 h_o0) rfl rfl rfl hl.1 (Nat.le_of_ble_eq_true rfl) dX7_isClearAt_8 ⟨Nat.zero_le _, Nat.zero_le _⟩) (fun r3 σ4 H locs hw hG => ?_)
  refine lv_bipush (v := (50)) hx hb dX7_isClearAt_11 (by decide) ?_
  refine lv_iload_n hx hb dX7_isClearAt_13 rfl (lv_at hl 0 rfl) ?_
  refine lv_imul hx hb dX7_isClearAt_14 ?_
  refine lv_iadd hx hb dX7_isClearAt_15 ?_
  refine lv_i2l hx hb dX7_isClearAt_16 rfl ?_
  refine lv_aload_n hx hb dX7_isClearAt_17 rfl (lv_at hl 2 rfl) ?_
  refine lv_iload_n hx hb dX7_isClearAt_18 rfl (lv_at hl 3 rfl) ?_
  refine g_calli hG (g_runV (rm := rm_X4_below) (As := [.int v2]) (rest := [.long ((r3 + ((50 : Int32) * r1)).toInt64)]) (n := 1) hE hG (m_X4_below l X h_o1 hw _) gX7_isClearAt_X4_below rfl rfl rfl (by decide +kernel) ⟨Nat.le_of_ble_eq_true rfl, Nat.le_of_ble_eq_true rfl⟩ (kd_lt h_o1 (by decide)) (ce_4 h_o1) rfl rfl rfl hl.1 (Nat.le_of_ble_eq_true rfl) dX7_isClearAt_19 ⟨Nat.zero_le _, Nat.zero_le _⟩) (fun r5 σ6 H locs hw hG => ?_)
  refine lv_i2l hx hb dX7_isClearAt_22 rfl ?_
  refine lv_lmul hx hb dX7_isClearAt_23 ?_
  refine lv_topl (fun x7 ex7 => ?_)
  have hw := hw x7 ex7
  refine lv_lstore (lv' := [(4, .long x7), (3, .int r1), (0, .ref (X.2.1 o0)), (1, .ref (X.2.1 o1)), (2, .int v2)]) hx hb dX7_isClearAt_24 hl (by decide) rfl (fun ls hl => ?_)
  refine lv_lload hx hb dX7_isClearAt_26 (lv_at hl 0 rfl) ?_
  refine lv_aload_n hx hb dX7_isClearAt_28 rfl (lv_at hl 3 rfl) ?_
  refine lv_iload_n hx hb dX7_isClearAt_29 rfl (lv_at hl 4 rfl) ?_
  refine g_calli hG (g_runV (rm := rm_X4_above) (As := [.int v2]) (rest := [.long x7]) (n := 1) hE hG (m_X4_above l X h_o1 hw _) gX7_isClearAt_X4_above rfl rfl rfl (by decide +kernel) ⟨Nat.le_of_ble_eq_true rfl, Nat.le_of_ble_eq_true rfl⟩ (kd_lt h_o1 (by decide)) (ce_4 h_o1) rfl rfl rfl hl.1 (Nat.le_of_ble_eq_true rfl) dX7_isClearAt_30 ⟨Nat.zero_le _, Nat.zero_le _⟩) (fun r8 σ9 H locs hw hG => ?_)
  refine lv_i2l hx hb dX7_isClearAt_33 rfl ?_
  refine lv_iload_n hx hb dX7_isClearAt_34 rfl (lv_at hl 1 rfl) ?_
  refine lv_i2l hx hb dX7_isClearAt_35 rfl ?_
  refine lv_lmul hx hb dX7_isClearAt_36 ?_
  refine W.lcmp hx hb dX7_isClearAt_37 ?_
  refine lv_if_gt (tgt := 45) hx hb dX7_isClearAt_38 (by decide) (fun hc10 => ?_) (fun hc10 => ?_)
  · have hw := hw.1 hc10
    refine lv_iconst (v := 0) hx hb dX7_isClearAt_45 (by decide) ?_
    exact g_zret hE hG hr hlk dX7_isClearAt_46 (by decide) hw
  · have hw := hw.2 hc10
    refine lv_iconst (v := 1) hx hb dX7_isClearAt_41 (by decide) ?_
    refine lv_goto (tgt := 46) hx hb dX7_isClearAt_42 (by decide) ?_
    exact g_zret hE hG hr hlk dX7_isClearAt_46 (by decide) hw

