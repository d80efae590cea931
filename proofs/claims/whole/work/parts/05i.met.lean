/-! contracts, by program -/
set_option maxHeartbeats 4000000 in
set_option maxRecDepth 100000 in
theorem b_X10_knot_42 {p : Program} {l : Launch} {e : Env} {s : State} {m : MethodId} {args : Array Value} {below : List Frame} {meth : Method} {c : Code} {X : wX} {A : Nat → Prop} {H : Heap} {locs : List Loc} {ls : Array Slot} {σ : St} (hE : eV p m c cX10_knot 3 s args wsX10_knot RX10 X) (hr : meth.sig.returnType = (some .int)) (hlk : meth.locks = false) {Q : Int32 → St → Prop} {v1 : Int32} {v2 : Int32} (hw : wb_X10_knot_42 Q v1 v2 σ) (hG : gW X kmL A s.heap σ H locs) (hl : lv_has ls 3 [(0, .ref (X.2.1 0)), (1, .int v1), (2, .int v2)]) : W p l e rm_X10_knot s m args below meth c H locs 0 0 (zI X kmL below args s A Q) (F0 m 42 ls []) := by
  have hx := hE.1.1
  have hb := hE.1.2.1
  unfold wb_X10_knot_42 at hw
  refine lv_aload_n hx hb dX10_knot_42 rfl (lv_at hl 0 rfl) ?_
  refine g_get (k := 11) hE hG (kd_lt km0 (by decide)) (ce_10 km0) rfl (by decide +kernel) (by decide) (by decide +kernel) rfl rfl dX10_knot_43 ?_
  refine lv_bipush (v := (6)) hx hb dX10_knot_46 (by decide) ?_
  refine lv_icmp_ne (tgt := 54) hx hb dX10_knot_48 (by decide) (fun hc8 => ?_) (fun hc8 => ?_)
  · have hw := hw.1 hc8
    refine lv_aload_n hx hb dX10_knot_54 rfl (lv_at hl 0 rfl) ?_
    refine g_get (k := 12) hE hG (kd_lt km0 (by decide)) (ce_10 km0) rfl (by decide +kernel) (by decide) (by decide +kernel) rfl rfl dX10_knot_55 ?_
    refine lv_aload_n hx hb dX10_knot_58 rfl (lv_at hl 0 rfl) ?_
    refine g_get (k := 11) hE hG (kd_lt km0 (by decide)) (ce_10 km0) rfl (by decide +kernel) (by decide) (by decide +kernel) rfl rfl dX10_knot_59 ?_
    refine lv_iload_n hx hb dX10_knot_62 rfl (lv_at hl 1 rfl) ?_
    obtain ⟨hi9, hw⟩ := hw
    refine g_iast (n := 6) hE hG (kd_lt km10 (by decide)) (fun _ => ce_int km10 (by decide) (by decide)) hi9 dX10_knot_63 (fun σ10 H locs eσ10 hG => ?_)
    have hw := hw σ10 eσ10
    refine lv_aload_n hx hb dX10_knot_64 rfl (lv_at hl 0 rfl) ?_
    refine g_get (k := 13) hE hG (kd_lt km0 (by decide)) (ce_10 km0) rfl (by decide +kernel) (by decide) (by decide +kernel) rfl rfl dX10_knot_65 ?_
    refine lv_aload_n hx hb dX10_knot_68 rfl (lv_at hl 0 rfl) ?_
    refine g_get (k := 11) hE hG (kd_lt km0 (by decide)) (ce_10 km0) rfl (by decide +kernel) (by decide) (by decide +kernel) rfl rfl dX10_knot_69 ?_
    refine lv_iload_n hx hb dX10_knot_72 rfl (lv_at hl 2 rfl) ?_
    obtain ⟨hi11, hw⟩ := hw
    refine g_iast (n := 6) hE hG (kd_lt km11 (by decide)) (fun _ => ce_int km11 (by decide) (by decide)) hi11 dX10_knot_73 (fun σ12 H locs eσ12 hG => ?_)
    have hw := hw σ12 eσ12
    refine lv_aload_n hx hb dX10_knot_74 rfl (lv_at hl 0 rfl) ?_
    refine lv_dup hx hb dX10_knot_75 rfl ?_
    refine g_get (k := 11) hE hG (kd_lt km0 (by decide)) (ce_10 km0) rfl (by decide +kernel) (by decide) (by decide +kernel) rfl rfl dX10_knot_76 ?_
    refine lv_iconst (v := 1) hx hb dX10_knot_79 (by decide) ?_
    refine lv_iadd hx hb dX10_knot_80 ?_
    refine g_put (k := 11) (x := ((σ12 0 11) + (1 : Int32))) (ty := .int) hE hG (kd_lt km0 (by decide)) (ce_10 km0) (by rw [ce_10 km0]; rfl) rfl (by decide +kernel) tyX10 tyX10_ok nmX10 (by decide) (by decide +kernel) rfl rfl (by decide +kernel) rfl rfl (Nat.le_of_ble_eq_true rfl) dX10_knot_81 (fun σ13 H locs eσ13 hG => ?_)
    have hw := hw σ13 eσ13
    refine lv_aload_n hx hb dX10_knot_84 rfl (lv_at hl 0 rfl) ?_
    refine g_get (k := 11) hE hG (kd_lt km0 (by decide)) (ce_10 km0) rfl (by decide +kernel) (by decide) (by decide +kernel) rfl rfl dX10_knot_85 ?_
    exact g_iret hE hG hr hlk dX10_knot_88 hw
  · have hw := hw.2 hc8
    refine lv_bipush (v := (-2)) hx hb dX10_knot_51 (by decide) ?_
    exact g_iret hE hG hr hlk dX10_knot_53 hw

set_option maxHeartbeats 4000000 in
set_option maxRecDepth 100000 in
theorem m_X10_knot (l : Launch) (X : wX) {Q : Int32 → St → Prop} {v1 : Int32} {v2 : Int32} {σ : St} (hw : wp_X10_knot Q v1 v2 σ) : mI X kmL l yX10_knot wsX10_knot rm_X10_knot [.ref (X.2.1 0), .int v1, .int v2] σ Q := by
  refine mI.of (cc := cX10_knot) (maxL := 3) (ret := (some .int)) (by decide +kernel) rfl (Nat.le_of_ble_eq_true rfl) ?_
  intro A p e s m args below meth c ls hE hr hlk hl hG
  have hx := hE.1.1
  have hb := hE.1.2.1
  unfold wp_X10_knot at hw
  have hl : lv_has ls 3 [(0, .ref (X.2.1 0)), (1, .int v1), (2, .int v2)] := hl
  refine lv_iload_n hx hb dX10_knot_0 rfl (lv_at hl 1 rfl) ?_
  refine g_calli hG (g_runS (rm := rm_X10_isDegree) (As := [.int v1]) (rest := []) (n := 1) hE hG (m_X10_isDegree l X hw _) gX10_knot_X10_isDegree rfl rfl rfl (by decide +kernel) ⟨Nat.le_of_ble_eq_true rfl, Nat.le_of_ble_eq_true rfl⟩ rfl hl.1 (Nat.le_of_ble_eq_true rfl) dX10_knot_1 ⟨Nat.zero_le _, Nat.zero_le _⟩) (fun r1 σ2 H locs hw hG => ?_)
  refine lv_if_eq (tgt := 40) hx hb dX10_knot_4 (by decide) (fun hc3 => ?_) (fun hc3 => ?_)
  · have hw := hw.1 hc3
    refine lv_iconst (v := (-1)) hx hb dX10_knot_40 (by decide) ?_
    exact g_iret hE hG hr hlk dX10_knot_41 hw
  · have hw := hw.2 hc3
    refine lv_iload_n hx hb dX10_knot_7 rfl (lv_at hl 2 rfl) ?_
    refine lv_iconst (v := 0) hx hb dX10_knot_8 (by decide) ?_
    refine lv_sipush (v := (1000)) hx hb dX10_knot_9 (by decide) ?_
    refine g_calli hG (g_runS (rm := rm_X10_in) (As := [.int v2, .int (0 : Int32), .int (1000 : Int32)]) (rest := []) (n := 3) hE hG (m_X10_in l X hw _) gX10_knot_X10_in rfl rfl rfl (by decide +kernel) ⟨Nat.le_of_ble_eq_true rfl, Nat.le_of_ble_eq_true rfl⟩ rfl hl.1 (Nat.le_of_ble_eq_true rfl) dX10_knot_12 ⟨Nat.zero_le _, Nat.zero_le _⟩) (fun r4 σ5 H locs hw hG => ?_)
    refine lv_if_eq (tgt := 40) hx hb dX10_knot_15 (by decide) (fun hc6 => ?_) (fun hc6 => ?_)
    · have hw := hw.1 hc6
      refine lv_iconst (v := (-1)) hx hb dX10_knot_40 (by decide) ?_
      exact g_iret hE hG hr hlk dX10_knot_41 hw
    · have hw := hw.2 hc6
      refine lv_aload_n hx hb dX10_knot_18 rfl (lv_at hl 0 rfl) ?_
      refine g_get (k := 11) hE hG (kd_lt km0 (by decide)) (ce_10 km0) rfl (by decide +kernel) (by decide) (by decide +kernel) rfl rfl dX10_knot_19 ?_
      refine lv_if_le (tgt := 42) hx hb dX10_knot_22 (by decide) (fun hc7 => ?_) (fun hc7 => ?_)
      · have hw := hw.1 hc7
        exact b_X10_knot_42 hE hr hlk hw hG (lv_sub hl [0, 1, 2] rfl)
      · have hw := hw.2 hc7
        refine lv_iload_n hx hb dX10_knot_25 rfl (lv_at hl 1 rfl) ?_
        refine lv_aload_n hx hb dX10_knot_26 rfl (lv_at hl 0 rfl) ?_
        refine g_get (k := 12) hE hG (kd_lt km0 (by decide)) (ce_10 km0) rfl (by decide +kernel) (by decide) (by decide +kernel) rfl rfl dX10_knot_27 ?_
        refine lv_aload_n hx hb dX10_knot_30 rfl (lv_at hl 0 rfl) ?_
        refine g_get (k := 11) hE hG (kd_lt km0 (by decide)) (ce_10 km0) rfl (by decide +kernel) (by decide) (by decide +kernel) rfl rfl dX10_knot_31 ?_
        refine lv_iconst (v := 1) hx hb dX10_knot_34 (by decide) ?_
        refine lv_isub hx hb dX10_knot_35 ?_
        obtain ⟨hi14, hw⟩ := hw
        refine g_iald (n := 6) hE hG (kd_lt km10 (by decide)) (ce_int km10 (by decide) (by decide)) hi14 dX10_knot_36 ?_
        refine lv_icmp_gt (tgt := 42) hx hb dX10_knot_37 (by decide) (fun hc15 => ?_) (fun hc15 => ?_)
        · have hw := hw.1 hc15
          exact b_X10_knot_42 hE hr hlk hw hG (lv_sub hl [0, 1, 2] rfl)
        · have hw := hw.2 hc15
          refine lv_iconst (v := (-1)) hx hb dX10_knot_40 (by decide) ?_
          exact g_iret hE hG hr hlk dX10_knot_41 hw

set_option maxHeartbeats 4000000 in
set_option maxRecDepth 100000 in
theorem m_X10_forget (l : Launch) (X : wX) {Q : Int32 → St → Prop} {σ : St} (hw : wp_X10_forget Q σ) : mI X kmL l yX10_forget wsX10_forget rm_X10_forget [.ref (X.2.1 0)] σ Q := by
  refine mI.of (cc := cX10_forget) (maxL := 2) (ret := (some .int)) (by decide +kernel) rfl (Nat.le_of_ble_eq_true rfl) ?_
  intro A p e s m args below meth c ls hE hr hlk hl hG
  have hx := hE.1.1
  have hb := hE.1.2.1
  unfold wp_X10_forget at hw
  have hl : lv_has ls 2 [(0, .ref (X.2.1 0))] := hl
  refine lv_aload_n hx hb dX10_forget_0 rfl (lv_at hl 0 rfl) ?_
  refine g_get (k := 11) hE hG (kd_lt km0 (by decide)) (ce_10 km0) rfl (by decide +kernel) (by decide) (by decide +kernel) rfl rfl dX10_forget_1 ?_
  refine lv_topi (fun x1 ex1 => ?_)
  have hw := hw x1 ex1
  refine lv_istore_n (lv' := [(1, .int x1), (0, .ref (X.2.1 0))]) hx hb dX10_forget_4 rfl hl (by decide) rfl (fun ls hl => ?_)
  refine lv_aload_n hx hb dX10_forget_5 rfl (lv_at hl 1 rfl) ?_
  refine lv_iconst (v := 0) hx hb dX10_forget_6 (by decide) ?_
  refine g_put (k := 11) (x := (0 : Int32)) (ty := .int) hE hG (kd_lt km0 (by decide)) (ce_10 km0) (by rw [ce_10 km0]; rfl) rfl (by decide +kernel) tyX10 tyX10_ok nmX10 (by decide) (by decide +kernel) rfl rfl (by decide +kernel) rfl rfl (Nat.le_of_ble_eq_true rfl) dX10_forget_7 (fun σ2 H locs eσ2 hG => ?_)
  have hw := hw σ2 eσ2
  refine lv_iload_n hx hb dX10_forget_10 rfl (lv_at hl 0 rfl) ?_
  exact g_iret hE hG hr hlk dX10_forget_11 hw

set_option maxHeartbeats 4000000 in
set_option maxRecDepth 100000 in
theorem b_X10_common_4 {p : Program} {l : Launch} {e : Env} {s : State} {m : MethodId} {args : Array Value} {below : List Frame} {meth : Method} {c : Code} {X : wX} {A : Nat → Prop} (hE : eV p m c cX10_common 5 s args wsX10_common RX10 X) (hr : meth.sig.returnType = (some .int)) (hlk : meth.locks = false) {Q : Int32 → St → Prop} : ∀ (n : Nat) (σ : St) (v2 : Int32) (v3 : Int32) (H : Heap) (locs : List Loc) (ls : Array Slot), wl_X10_common_4 Q n σ v2 v3 → gW X kmL A s.heap σ H locs → lv_has ls 5 [(2, .int v2), (3, .int v3)] → W p l e rm_X10_common s m args below meth c H locs 0 0 (zI X kmL below args s A Q) (F0 m 4 ls []) := by
  have hx := hE.1.1
  have hb := hE.1.2.1
  intro n
  induction n with
  | zero =>
    intro σ v2 v3 H locs ls hw
    exact False.elim hw
  | succ n ih =>
    intro σ v2 v3 H locs ls hw hG hl
    have hw : wB_X10_common_4 Q (wl_X10_common_4 Q n) σ v2 v3 := hw
    unfold wB_X10_common_4 at hw
    refine lv_iload_n hx hb dX10_common_4 rfl (lv_at hl 1 rfl) ?_
    refine lv_if_eq (tgt := 21) hx hb dX10_common_5 (by decide) (fun hc1 => ?_) (fun hc1 => ?_)
    · have hw := hw.1 hc1
      refine lv_iload_n hx hb dX10_common_21 rfl (lv_at hl 0 rfl) ?_
      exact g_iret hE hG hr hlk dX10_common_22 hw
    · have hw := hw.2 hc1
      refine lv_iload_n hx hb dX10_common_8 rfl (lv_at hl 0 rfl) ?_
      refine lv_iload_n hx hb dX10_common_9 rfl (lv_at hl 1 rfl) ?_
      obtain ⟨hz2, hw⟩ := hw
      refine lv_irem hx hb dX10_common_10 hz2 ?_
      refine lv_topi (fun x3 ex3 => ?_)
      have hw := hw x3 ex3
      refine lv_istore (lv' := [(4, .int x3), (2, .int v2), (3, .int v3)]) hx hb dX10_common_11 hl (by decide) rfl (fun ls hl => ?_)
      refine lv_iload_n hx hb dX10_common_13 rfl (lv_at hl 2 rfl) ?_
      refine lv_istore_n (lv' := [(2, .int v3), (4, .int x3), (3, .int v3)]) hx hb dX10_common_14 rfl hl (by decide) rfl (fun ls hl => ?_)
      refine lv_iload hx hb dX10_common_15 (lv_at hl 1 rfl) ?_
      refine lv_istore_n (lv' := [(3, .int x3), (2, .int v3), (4, .int x3)]) hx hb dX10_common_17 rfl hl (by decide) rfl (fun ls hl => ?_)
      refine lv_goto (tgt := 4) hx hb dX10_common_18 (by decide) ?_
      exact ih _ _ _ _ _ _ hw hG (lv_sub hl [1, 0] rfl)

set_option maxHeartbeats 4000000 in
set_option maxRecDepth 100000 in
theorem m_X10_common (l : Launch) (X : wX) {Q : Int32 → St → Prop} {v0 : Int32} {v1 : Int32} {σ : St} (hw : wp_X10_common Q v0 v1 σ) : mI X kmL l yX10_common wsX10_common rm_X10_common [.int v0, .int v1] σ Q := by
  refine mI.of (cc := cX10_common) (maxL := 5) (ret := (some .int)) (by decide +kernel) rfl (Nat.le_of_ble_eq_true rfl) ?_
  intro A p e s m args below meth c ls hE hr hlk hl hG
  have hx := hE.1.1
  have hb := hE.1.2.1
  unfold wp_X10_common at hw
  have hl : lv_has ls 5 [(0, .int v0), (1, .int v1)] := hl
  refine lv_iload_n hx hb dX10_common_0 rfl (lv_at hl 0 rfl) ?_
  refine lv_istore_n (lv' := [(2, .int v0), (0, .int v0), (1, .int v1)]) hx hb dX10_common_1 rfl hl (by decide) rfl (fun ls hl => ?_)
  refine lv_iload_n hx hb dX10_common_2 rfl (lv_at hl 2 rfl) ?_
  refine lv_istore_n (lv' := [(3, .int v1), (2, .int v0), (0, .int v0), (1, .int v1)]) hx hb dX10_common_3 rfl hl (by decide) rfl (fun ls hl => ?_)
  obtain ⟨n, hw⟩ := hw
  exact b_X10_common_4 hE hr hlk n _ _ _ _ _ _ hw hG (lv_sub hl [1, 0] rfl)

set_option maxHeartbeats 4000000 in
set_option maxRecDepth 100000 in
theorem m_X10_place (l : Launch) (X : wX) {Q : Int32 → St → Prop} {v1 : Int32} {v2 : Int32} {v3 : Int32} {σ : St} (hw : wp_X10_place Q v1 v2 v3 σ) : mI X kmL l yX10_place wsX10_place rm_X10_place [.ref (X.2.1 0), .int v1, .int v2, .int v3] σ Q := by
  refine mI.of (cc := cX10_place) (maxL := 5) (ret := (some .int)) (by decide +kernel) rfl (Nat.le_of_ble_eq_true rfl) ?_
  intro A p e s m args below meth c ls hE hr hlk hl hG
  have hx := hE.1.1
  have hb := hE.1.2.1
  unfold wp_X10_place at hw
  have hl : lv_has ls 5 [(0, .ref (X.2.1 0)), (1, .int v1), (2, .int v2), (3, .int v3)] := hl
  refine lv_iload_n hx hb dX10_place_0 rfl (lv_at hl 1 rfl) ?_
  refine g_calli hG (g_runS (rm := rm_X10_isArm) (As := [.int v1]) (rest := []) (n := 1) hE hG (m_X10_isArm l X hw _) gX10_place_X10_isArm rfl rfl rfl (by decide +kernel) ⟨Nat.le_of_ble_eq_true rfl, Nat.le_of_ble_eq_true rfl⟩ rfl hl.1 (Nat.le_of_ble_eq_true rfl) dX10_place_1 ⟨Nat.zero_le _, Nat.zero_le _⟩) (fun r1 σ2 H locs hw hG => ?_)
  refine lv_if_eq (tgt := 23) hx hb dX10_place_4 (by decide) (fun hc3 => ?_) (fun hc3 => ?_)
  · have hw := hw.1 hc3
    refine lv_iconst (v := (-1)) hx hb dX10_place_23 (by decide) ?_
    exact g_iret hE hG hr hlk dX10_place_24 hw
  · have hw := hw.2 hc3
    refine lv_iload_n hx hb dX10_place_7 rfl (lv_at hl 2 rfl) ?_
    refine g_calli hG (g_runS (rm := rm_X10_isDegree) (As := [.int v2]) (rest := []) (n := 1) hE hG (m_X10_isDegree l X hw _) gX10_place_X10_isDegree rfl rfl rfl (by decide +kernel) ⟨Nat.le_of_ble_eq_true rfl, Nat.le_of_ble_eq_true rfl⟩ rfl hl.1 (Nat.le_of_ble_eq_true rfl) dX10_place_8 ⟨Nat.zero_le _, Nat.zero_le _⟩) (fun r4 σ5 H locs hw hG => ?_)
    refine lv_if_eq (tgt := 23) hx hb dX10_place_11 (by decide) (fun hc6 => ?_) (fun hc6 => ?_)
    · have hw := hw.1 hc6
      refine lv_iconst (v := (-1)) hx hb dX10_place_23 (by decide) ?_
      exact g_iret hE hG hr hlk dX10_place_24 hw
    · have hw := hw.2 hc6
      refine lv_iload_n hx hb dX10_place_14 rfl (lv_at hl 3 rfl) ?_
      refine lv_iconst (v := 0) hx hb dX10_place_15 (by decide) ?_
      refine lv_iconst (v := 1) hx hb dX10_place_16 (by decide) ?_
      refine g_calli hG (g_runS (rm := rm_X10_in) (As := [.int v3, .int (0 : Int32), .int (1 : Int32)]) (rest := []) (n := 3) hE hG (m_X10_in l X hw _) gX10_place_X10_in rfl rfl rfl (by decide +kernel) ⟨Nat.le_of_ble_eq_true rfl, Nat.le_of_ble_eq_true rfl⟩ rfl hl.1 (Nat.le_of_ble_eq_true rfl) dX10_place_17 ⟨Nat.zero_le _, Nat.zero_le _⟩) (fun r7 σ8 H locs hw hG => ?_)
      refine lv_if_ne (tgt := 25) hx hb dX10_place_20 (by decide) (fun hc9 => ?_) (fun hc9 => ?_)
      · have hw := hw.1 hc9
        refine lv_aload_n hx hb dX10_place_25 rfl (lv_at hl 0 rfl) ?_
        refine lv_iload_n hx hb dX10_place_26 rfl (lv_at hl 1 rfl) ?_
        refine lv_iload_n hx hb dX10_place_27 rfl (lv_at hl 2 rfl) ?_
        refine g_callv hG (g_runV (rm := rm_X10_find) (As := [.int v1, .int v2]) (rest := []) (n := 2) hE hG (m_X10_find l X hw _) gX10_place_X10_find rfl rfl rfl (by decide +kernel) ⟨Nat.le_of_ble_eq_true rfl, Nat.le_of_ble_eq_true rfl⟩ (kd_lt km0 (by decide)) (ce_10 km0) rfl rfl rfl hl.1 (Nat.le_of_ble_eq_true rfl) dX10_place_28 ⟨Nat.zero_le _, Nat.zero_le _⟩) (fun σ11 H locs hw hG => ?_)
        refine lv_aload_n hx hb dX10_place_31 rfl (lv_at hl 0 rfl) ?_
        refine g_get (k := 41) hE hG (kd_lt km0 (by decide)) (ce_10 km0) rfl (by decide +kernel) (by decide) (by decide +kernel) rfl rfl dX10_place_32 ?_
        refine lv_aload_n hx hb dX10_place_35 rfl (lv_at hl 0 rfl) ?_
        refine g_get (k := 42) hE hG (kd_lt km0 (by decide)) (ce_10 km0) rfl (by decide +kernel) (by decide) (by decide +kernel) rfl rfl dX10_place_36 ?_
        refine g_calli hG (g_runS (rm := rm_X10_common) (As := [.int (σ11 0 41), .int (σ11 0 42)]) (rest := []) (n := 2) hE hG (m_X10_common l X hw _) gX10_place_X10_common rfl rfl rfl (by decide +kernel) ⟨Nat.le_of_ble_eq_true rfl, Nat.le_of_ble_eq_true rfl⟩ rfl hl.1 (Nat.le_of_ble_eq_true rfl) dX10_place_39 ⟨Nat.zero_le _, Nat.zero_le _⟩) (fun r12 σ13 H locs hw hG => ?_)
        refine lv_istore (lv' := [(4, .int r12), (0, .ref (X.2.1 0)), (1, .int v1), (2, .int v2), (3, .int v3)]) hx hb dX10_place_42 hl (by decide) rfl (fun ls hl => ?_)
        refine lv_iload_n hx hb dX10_place_44 rfl (lv_at hl 4 rfl) ?_
        refine lv_if_ne (tgt := 55) hx hb dX10_place_45 (by decide) (fun hc14 => ?_) (fun hc14 => ?_)
        · have hw := hw.1 hc14
          refine lv_aload_n hx hb dX10_place_55 rfl (lv_at hl 1 rfl) ?_
          refine g_get (k := 42) hE hG (kd_lt km0 (by decide)) (ce_10 km0) rfl (by decide +kernel) (by decide) (by decide +kernel) rfl rfl dX10_place_56 ?_
          refine lv_iload hx hb dX10_place_59 (lv_at hl 0 rfl) ?_
          obtain ⟨hz15, hw⟩ := hw
          refine lv_idiv hx hb dX10_place_61 hz15 ?_
          exact g_iret hE hG hr hlk dX10_place_62 hw
        · have hw := hw.2 hc14
          refine lv_aload_n hx hb dX10_place_48 rfl (lv_at hl 1 rfl) ?_
          refine g_get (k := 41) hE hG (kd_lt km0 (by decide)) (ce_10 km0) rfl (by decide +kernel) (by decide) (by decide +kernel) rfl rfl dX10_place_49 ?_
          refine lv_goto (tgt := 59) hx hb dX10_place_52 (by decide) ?_
          refine lv_iload hx hb dX10_place_59 (lv_at hl 0 rfl) ?_
          obtain ⟨hz16, hw⟩ := hw
          refine lv_idiv hx hb dX10_place_61 hz16 ?_
          exact g_iret hE hG hr hlk dX10_place_62 hw
      · have hw := hw.2 hc9
        refine lv_iconst (v := (-1)) hx hb dX10_place_23 (by decide) ?_
        exact g_iret hE hG hr hlk dX10_place_24 hw

set_option maxHeartbeats 4000000 in
set_option maxRecDepth 100000 in
theorem b_X10_nearest_115 {p : Program} {l : Launch} {e : Env} {s : State} {m : MethodId} {args : Array Value} {below : List Frame} {meth : Method} {c : Code} {X : wX} {A : Nat → Prop} {H : Heap} {locs : List Loc} {ls : Array Slot} {σ : St} (hE : eV p m c cX10_nearest 17 s args wsX10_nearest RX10 X) (hr : meth.sig.returnType = (some .int)) (hlk : meth.locks = false) {Q : Int32 → St → Prop} {L32 : St → Int32 → Int64 → Int64 → Int32 → Prop} {v1 : Int32} {v2 : Int32} {v8 : Int32} {v13 : Int64} {v15 : Int64} (hL32 : ∀ (σ : St) (v3 : Int32) (v4 : Int64) (v6 : Int64) (v8 : Int32) (H : Heap) (locs : List Loc) (ls : Array Slot), L32 σ v3 v4 v6 v8 → gW X kmL A s.heap σ H locs → lv_has ls 17 [(0, .ref (X.2.1 0)), (1, .int v1), (2, .int v2), (3, .int v3), (4, .long v4), (6, .long v6), (8, .int v8)] → W p l e rm_X10_nearest s m args below meth c H locs 0 0 (zI X kmL below args s A Q) (F0 m 32 ls [])) (hw : wb_X10_nearest_115 Q L32 v1 v2 v8 v13 v15 σ) (hG : gW X kmL A s.heap σ H locs) (hl : lv_has ls 17 [(0, .ref (X.2.1 0)), (1, .int v1), (2, .int v2), (8, .int v8), (13, .long v13), (15, .long v15)]) : W p l e rm_X10_nearest s m args below meth c H locs 0 0 (zI X kmL below args s A Q) (F0 m 115 ls []) := by
  have hx := hE.1.1
  have hb := hE.1.2.1
  unfold wb_X10_nearest_115 at hw
  refine lv_iload hx hb dX10_nearest_115 (lv_at hl 3 rfl) ?_
  refine lv_istore_n (lv' := [(3, .int v8), (0, .ref (X.2.1 0)), (1, .int v1), (2, .int v2), (8, .int v8), (13, .long v13), (15, .long v15)]) hx hb dX10_nearest_117 rfl hl (by decide) rfl (fun ls hl => ?_)
  refine lv_lload hx hb dX10_nearest_118 (lv_at hl 5 rfl) ?_
  refine lv_lstore (lv' := [(4, .long v13), (3, .int v8), (0, .ref (X.2.1 0)), (1, .int v1), (2, .int v2), (8, .int v8), (13, .long v13), (15, .long v15)]) hx hb dX10_nearest_120 hl (by decide) rfl (fun ls hl => ?_)
  refine lv_lload hx hb dX10_nearest_122 (lv_at hl 7 rfl) ?_
  refine lv_lstore (lv' := [(6, .long v15), (4, .long v13), (3, .int v8), (0, .ref (X.2.1 0)), (1, .int v1), (2, .int v2), (8, .int v8), (13, .long v13), (15, .long v15)]) hx hb dX10_nearest_124 hl (by decide) rfl (fun ls hl => ?_)
  obtain ⟨x18, ex18⟩ : ∃ z : Int32, z = v8 + (1 : Int32) := ⟨_, rfl⟩
  have hw := hw x18 ex18
  refine lv_iinc (v := x18) (lv' := [(8, .int x18), (6, .long v15), (4, .long v13), (3, .int v8), (0, .ref (X.2.1 0)), (1, .int v1), (2, .int v2), (13, .long v13), (15, .long v15)]) hx hb dX10_nearest_126 hl (k := 6) rfl (by rw [ex18]; rfl) (by decide) rfl (fun ls hl => ?_)
  refine lv_goto (tgt := 32) hx hb dX10_nearest_129 (by decide) ?_
  exact hL32 _ _ _ _ _ _ _ _ hw hG (lv_sub hl [4, 5, 6, 3, 2, 1, 0] rfl)

set_option maxHeartbeats 4000000 in
set_option maxRecDepth 100000 in
theorem b_X10_nearest_32 {p : Program} {l : Launch} {e : Env} {s : State} {m : MethodId} {args : Array Value} {below : List Frame} {meth : Method} {c : Code} {X : wX} {A : Nat → Prop} (hE : eV p m c cX10_nearest 17 s args wsX10_nearest RX10 X) (hr : meth.sig.returnType = (some .int)) (hlk : meth.locks = false) {Q : Int32 → St → Prop} {v1 : Int32} {v2 : Int32} : ∀ (n : Nat) (σ : St) (v3 : Int32) (v4 : Int64) (v6 : Int64) (v8 : Int32) (H : Heap) (locs : List Loc) (ls : Array Slot), wl_X10_nearest_32 Q v1 v2 n σ v3 v4 v6 v8 → gW X kmL A s.heap σ H locs → lv_has ls 17 [(0, .ref (X.2.1 0)), (1, .int v1), (2, .int v2), (3, .int v3), (4, .long v4), (6, .long v6), (8, .int v8)] → W p l e rm_X10_nearest s m args below meth c H locs 0 0 (zI X kmL below args s A Q) (F0 m 32 ls []) := by
  have hx := hE.1.1
  have hb := hE.1.2.1
  intro n
  induction n with
  | zero =>
    intro σ v3 v4 v6 v8 H locs ls hw
    exact False.elim hw
  | succ n ih =>
    intro σ v3 v4 v6 v8 H locs ls hw hG hl
    have hw : wB_X10_nearest_32 Q (wl_X10_nearest_32 Q v1 v2 n) v1 v2 σ v3 v4 v6 v8 := hw
    unfold wB_X10_nearest_32 at hw
    refine lv_iload hx hb dX10_nearest_32 (lv_at hl 6 rfl) ?_
    refine lv_sipush (v := (360)) hx hb dX10_nearest_34 (by decide) ?_
    refine lv_icmp_ge (tgt := 132) hx hb dX10_nearest_37 (by decide) (fun hc8 => ?_) (fun hc8 => ?_)
    · have hw := hw.1 hc8
      refine lv_iload_n hx hb dX10_nearest_132 rfl (lv_at hl 3 rfl) ?_
      exact g_iret hE hG hr hlk dX10_nearest_133 hw
    · have hw := hw.2 hc8
      refine lv_aload_n hx hb dX10_nearest_40 rfl (lv_at hl 0 rfl) ?_
      refine lv_iload_n hx hb dX10_nearest_41 rfl (lv_at hl 1 rfl) ?_
      refine lv_iload hx hb dX10_nearest_42 (lv_at hl 6 rfl) ?_
      refine g_callv hG (g_runV (rm := rm_X10_find) (As := [.int v1, .int v8]) (rest := []) (n := 2) hE hG (m_X10_find l X hw _) gX10_nearest_X10_find rfl rfl rfl (by decide +kernel) ⟨Nat.le_of_ble_eq_true rfl, Nat.le_of_ble_eq_true rfl⟩ (kd_lt km0 (by decide)) (ce_10 km0) rfl rfl rfl hl.1 (Nat.le_of_ble_eq_true rfl) dX10_nearest_44 ⟨Nat.zero_le _, Nat.zero_le _⟩) (fun σ10 H locs hw hG => ?_)
      refine lv_aload_n hx hb dX10_nearest_47 rfl (lv_at hl 0 rfl) ?_
      refine g_get (k := 41) hE hG (kd_lt km0 (by decide)) (ce_10 km0) rfl (by decide +kernel) (by decide) (by decide +kernel) rfl rfl dX10_nearest_48 ?_
      refine lv_i2l hx hb dX10_nearest_51 rfl ?_
      refine lv_topl (fun x11 ex11 => ?_)
      have hw := hw x11 ex11
      refine lv_lstore (lv' := [(9, .long x11), (0, .ref (X.2.1 0)), (1, .int v1), (2, .int v2), (3, .int v3), (4, .long v4), (6, .long v6), (8, .int v8)]) hx hb dX10_nearest_52 hl (by decide) rfl (fun ls hl => ?_)
      refine lv_aload_n hx hb dX10_nearest_54 rfl (lv_at hl 1 rfl) ?_
      refine g_get (k := 42) hE hG (kd_lt km0 (by decide)) (ce_10 km0) rfl (by decide +kernel) (by decide) (by decide +kernel) rfl rfl dX10_nearest_55 ?_
      refine lv_i2l hx hb dX10_nearest_58 rfl ?_
      refine lv_topl (fun x12 ex12 => ?_)
      have hw := hw x12 ex12
      refine lv_lstore (lv' := [(11, .long x12), (9, .long x11), (0, .ref (X.2.1 0)), (1, .int v1), (2, .int v2), (3, .int v3), (4, .long v4), (6, .long v6), (8, .int v8)]) hx hb dX10_nearest_59 hl (by decide) rfl (fun ls hl => ?_)
      refine lv_aload_n hx hb dX10_nearest_61 rfl (lv_at hl 2 rfl) ?_
      refine lv_iload_n hx hb dX10_nearest_62 rfl (lv_at hl 4 rfl) ?_
      refine lv_iload hx hb dX10_nearest_63 (lv_at hl 8 rfl) ?_
      refine g_callv hG (g_runV (rm := rm_X10_find) (As := [.int v2, .int v8]) (rest := []) (n := 2) hE hG (m_X10_find l X hw _) gX10_nearest_X10_find rfl rfl rfl (by decide +kernel) ⟨Nat.le_of_ble_eq_true rfl, Nat.le_of_ble_eq_true rfl⟩ (kd_lt km0 (by decide)) (ce_10 km0) rfl rfl rfl hl.1 (Nat.le_of_ble_eq_true rfl) dX10_nearest_65 ⟨Nat.zero_le _, Nat.zero_le _⟩) (fun σ14 H locs hw hG => ?_)
      refine lv_aload_n hx hb dX10_nearest_68 rfl (lv_at hl 2 rfl) ?_
      refine g_get (k := 41) hE hG (kd_lt km0 (by decide)) (ce_10 km0) rfl (by decide +kernel) (by decide) (by decide +kernel) rfl rfl dX10_nearest_69 ?_
      refine lv_i2l hx hb dX10_nearest_72 rfl ?_
      refine lv_lload hx hb dX10_nearest_73 (lv_at hl 0 rfl) ?_
      refine lv_lmul hx hb dX10_nearest_75 ?_
      refine lv_lload hx hb dX10_nearest_76 (lv_at hl 1 rfl) ?_
      refine lv_aload_n hx hb dX10_nearest_78 rfl (lv_at hl 2 rfl) ?_
      refine g_get (k := 42) hE hG (kd_lt km0 (by decide)) (ce_10 km0) rfl (by decide +kernel) (by decide) (by decide +kernel) rfl rfl dX10_nearest_79 ?_
      refine lv_i2l hx hb dX10_nearest_82 rfl ?_
      refine lv_lmul hx hb dX10_nearest_83 ?_
      refine lv_lsub hx hb dX10_nearest_84 ?_
      refine lv_topl (fun x15 ex15 => ?_)
      have hw := hw x15 ex15
      refine lv_lstore (lv' := [(13, .long x15), (11, .long x12), (9, .long x11), (0, .ref (X.2.1 0)), (1, .int v1), (2, .int v2), (3, .int v3), (4, .long v4), (6, .long v6), (8, .int v8)]) hx hb dX10_nearest_85 hl (by decide) rfl (fun ls hl => ?_)
      refine lv_lload hx hb dX10_nearest_87 (lv_at hl 1 rfl) ?_
      refine lv_aload_n hx hb dX10_nearest_89 rfl (lv_at hl 3 rfl) ?_
      refine g_get (k := 42) hE hG (kd_lt km0 (by decide)) (ce_10 km0) rfl (by decide +kernel) (by decide) (by decide +kernel) rfl rfl dX10_nearest_90 ?_
      refine lv_i2l hx hb dX10_nearest_93 rfl ?_
      refine lv_lmul hx hb dX10_nearest_94 ?_
      refine lv_topl (fun x16 ex16 => ?_)
      have hw := hw x16 ex16
      refine lv_lstore (lv' := [(15, .long x16), (13, .long x15), (11, .long x12), (9, .long x11), (0, .ref (X.2.1 0)), (1, .int v1), (2, .int v2), (3, .int v3), (4, .long v4), (6, .long v6), (8, .int v8)]) hx hb dX10_nearest_95 hl (by decide) rfl (fun ls hl => ?_)
      refine lv_iload_n hx hb dX10_nearest_97 rfl (lv_at hl 7 rfl) ?_
      refine lv_if_lt (tgt := 115) hx hb dX10_nearest_98 (by decide) (fun hc17 => ?_) (fun hc17 => ?_)
      · have hw := hw.1 hc17
        exact b_X10_nearest_115 hE hr hlk ih hw hG (lv_sub hl [4, 5, 6, 10, 1, 0] rfl)
      · have hw := hw.2 hc17
        refine lv_lload hx hb dX10_nearest_101 (lv_at hl 1 rfl) ?_
        refine lv_lload hx hb dX10_nearest_103 (lv_at hl 9 rfl) ?_
        refine lv_lmul hx hb dX10_nearest_105 ?_
        refine lv_lload hx hb dX10_nearest_106 (lv_at hl 8 rfl) ?_
        refine lv_lload hx hb dX10_nearest_108 (lv_at hl 0 rfl) ?_
        refine lv_lmul hx hb dX10_nearest_110 ?_
        refine W.lcmp hx hb dX10_nearest_111 ?_
        refine lv_if_ge (tgt := 126) hx hb dX10_nearest_112 (by decide) (fun hc19 => ?_) (fun hc19 => ?_)
        · have hw := hw.1 hc19
          obtain ⟨x20, ex20⟩ : ∃ z : Int32, z = v8 + (1 : Int32) := ⟨_, rfl⟩
          have hw := hw x20 ex20
          refine lv_iinc (v := x20) (lv' := [(8, .int x20), (15, .long x16), (13, .long x15), (11, .long x12), (9, .long x11), (0, .ref (X.2.1 0)), (1, .int v1), (2, .int v2), (3, .int v3), (4, .long v4), (6, .long v6)]) hx hb dX10_nearest_126 hl (k := 10) rfl (by rw [ex20]; rfl) (by decide) rfl (fun ls hl => ?_)
          refine lv_goto (tgt := 32) hx hb dX10_nearest_129 (by decide) ?_
          exact ih _ _ _ _ _ _ _ _ hw hG (lv_sub hl [5, 6, 7, 8, 9, 10, 0] rfl)
        · have hw := hw.2 hc19
          exact b_X10_nearest_115 hE hr hlk ih hw hG (lv_sub hl [4, 5, 6, 10, 1, 0] rfl)

set_option maxHeartbeats 4000000 in
set_option maxRecDepth 100000 in
theorem m_X10_nearest (l : Launch) (X : wX) {Q : Int32 → St → Prop} {v1 : Int32} {v2 : Int32} {σ : St} (hw : wp_X10_nearest Q v1 v2 σ) : mI X kmL l yX10_nearest wsX10_nearest rm_X10_nearest [.ref (X.2.1 0), .int v1, .int v2] σ Q := by
  refine mI.of (cc := cX10_nearest) (maxL := 17) (ret := (some .int)) (by decide +kernel) rfl (Nat.le_of_ble_eq_true rfl) ?_
  intro A p e s m args below meth c ls hE hr hlk hl hG
  have hx := hE.1.1
  have hb := hE.1.2.1
  unfold wp_X10_nearest at hw
  have hl : lv_has ls 17 [(0, .ref (X.2.1 0)), (1, .int v1), (2, .int v2)] := hl
  refine lv_iload_n hx hb dX10_nearest_0 rfl (lv_at hl 1 rfl) ?_
  refine g_calli hG (g_runS (rm := rm_X10_isArm) (As := [.int v1]) (rest := []) (n := 1) hE hG (m_X10_isArm l X hw _) gX10_nearest_X10_isArm rfl rfl rfl (by decide +kernel) ⟨Nat.le_of_ble_eq_true rfl, Nat.le_of_ble_eq_true rfl⟩ rfl hl.1 (Nat.le_of_ble_eq_true rfl) dX10_nearest_1 ⟨Nat.zero_le _, Nat.zero_le _⟩) (fun r1 σ2 H locs hw hG => ?_)
  refine lv_if_eq (tgt := 19) hx hb dX10_nearest_4 (by decide) (fun hc3 => ?_) (fun hc3 => ?_)
  · have hw := hw.1 hc3
    refine lv_iconst (v := (-1)) hx hb dX10_nearest_19 (by decide) ?_
    exact g_iret hE hG hr hlk dX10_nearest_20 hw
  · have hw := hw.2 hc3
    refine lv_iload_n hx hb dX10_nearest_7 rfl (lv_at hl 2 rfl) ?_
    refine g_calli hG (g_runS (rm := rm_X10_isArm) (As := [.int v2]) (rest := []) (n := 1) hE hG (m_X10_isArm l X hw _) gX10_nearest_X10_isArm rfl rfl rfl (by decide +kernel) ⟨Nat.le_of_ble_eq_true rfl, Nat.le_of_ble_eq_true rfl⟩ rfl hl.1 (Nat.le_of_ble_eq_true rfl) dX10_nearest_8 ⟨Nat.zero_le _, Nat.zero_le _⟩) (fun r4 σ5 H locs hw hG => ?_)
    refine lv_if_eq (tgt := 19) hx hb dX10_nearest_11 (by decide) (fun hc6 => ?_) (fun hc6 => ?_)
    · have hw := hw.1 hc6
      refine lv_iconst (v := (-1)) hx hb dX10_nearest_19 (by decide) ?_
      exact g_iret hE hG hr hlk dX10_nearest_20 hw
    · have hw := hw.2 hc6
      refine lv_iload_n hx hb dX10_nearest_14 rfl (lv_at hl 1 rfl) ?_
      refine lv_iload_n hx hb dX10_nearest_15 rfl (lv_at hl 2 rfl) ?_
      refine lv_icmp_lt (tgt := 21) hx hb dX10_nearest_16 (by decide) (fun hc7 => ?_) (fun hc7 => ?_)
      · have hw := hw.1 hc7
        refine lv_iconst (v := (-1)) hx hb dX10_nearest_21 (by decide) ?_
        refine lv_istore_n (lv' := [(3, .int (-1 : Int32)), (0, .ref (X.2.1 0)), (1, .int v1), (2, .int v2)]) hx hb dX10_nearest_22 rfl hl (by decide) rfl (fun ls hl => ?_)
        refine lv_lconst (v := (0)) hx hb dX10_nearest_23 (by decide) ?_
        refine lv_lstore (lv' := [(4, .long (0 : Int64)), (3, .int (-1 : Int32)), (0, .ref (X.2.1 0)), (1, .int v1), (2, .int v2)]) hx hb dX10_nearest_24 hl (by decide) rfl (fun ls hl => ?_)
        refine lv_lconst (v := (1)) hx hb dX10_nearest_26 (by decide) ?_
        refine lv_lstore (lv' := [(6, .long (1 : Int64)), (4, .long (0 : Int64)), (3, .int (-1 : Int32)), (0, .ref (X.2.1 0)), (1, .int v1), (2, .int v2)]) hx hb dX10_nearest_27 hl (by decide) rfl (fun ls hl => ?_)
        refine lv_iconst (v := 0) hx hb dX10_nearest_29 (by decide) ?_
        refine lv_istore (lv' := [(8, .int (0 : Int32)), (6, .long (1 : Int64)), (4, .long (0 : Int64)), (3, .int (-1 : Int32)), (0, .ref (X.2.1 0)), (1, .int v1), (2, .int v2)]) hx hb dX10_nearest_30 hl (by decide) rfl (fun ls hl => ?_)
        obtain ⟨n, hw⟩ := hw
        exact b_X10_nearest_32 hE hr hlk n _ _ _ _ _ _ _ _ hw hG (lv_sub hl [4, 5, 6, 3, 2, 1, 0] rfl)
      · have hw := hw.2 hc7
        refine lv_iconst (v := (-1)) hx hb dX10_nearest_19 (by decide) ?_
        exact g_iret hE hG hr hlk dX10_nearest_20 hw

set_option maxHeartbeats 4000000 in
set_option maxRecDepth 100000 in
theorem b_X10_placeInOrder_2 {p : Program} {l : Launch} {e : Env} {s : State} {m : MethodId} {args : Array Value} {below : List Frame} {meth : Method} {c : Code} {X : wX} {A : Nat → Prop} (hE : eV p m c cX10_placeInOrder 3 s args wsX10_placeInOrder RX10 X) (hr : meth.sig.returnType = (some .int)) (hlk : meth.locks = false) {Q : Int32 → St → Prop} {v1 : Int32} : ∀ (n : Nat) (σ : St) (v2 : Int32) (H : Heap) (locs : List Loc) (ls : Array Slot), wl_X10_placeInOrder_2 Q v1 n σ v2 → gW X kmL A s.heap σ H locs → lv_has ls 3 [(0, .ref (X.2.1 0)), (1, .int v1), (2, .int v2)] → W p l e rm_X10_placeInOrder s m args below meth c H locs 0 0 (zI X kmL below args s A Q) (F0 m 2 ls []) := by
  have hx := hE.1.1
  have hb := hE.1.2.1
  intro n
  induction n with
  | zero =>
    intro σ v2 H locs ls hw
    exact False.elim hw
  | succ n ih =>
    intro σ v2 H locs ls hw hG hl
    have hw : wB_X10_placeInOrder_2 Q (wl_X10_placeInOrder_2 Q v1 n) v1 σ v2 := hw
    unfold wB_X10_placeInOrder_2 at hw
    refine lv_iload_n hx hb dX10_placeInOrder_2 rfl (lv_at hl 2 rfl) ?_
    refine lv_aload_n hx hb dX10_placeInOrder_3 rfl (lv_at hl 0 rfl) ?_
    refine g_get (k := 14) hE hG (kd_lt km0 (by decide)) (ce_10 km0) rfl (by decide +kernel) (by decide) (by decide +kernel) rfl rfl dX10_placeInOrder_4 ?_
    refine lv_icmp_ge (tgt := 28) hx hb dX10_placeInOrder_7 (by decide) (fun hc1 => ?_) (fun hc1 => ?_)
    · have hw := hw.1 hc1
      refine lv_iconst (v := (-1)) hx hb dX10_placeInOrder_28 (by decide) ?_
      exact g_iret hE hG hr hlk dX10_placeInOrder_29 hw
    · have hw := hw.2 hc1
      refine lv_aload_n hx hb dX10_placeInOrder_10 rfl (lv_at hl 0 rfl) ?_
      refine g_get (k := 15) hE hG (kd_lt km0 (by decide)) (ce_10 km0) rfl (by decide +kernel) (by decide) (by decide +kernel) rfl rfl dX10_placeInOrder_11 ?_
      refine lv_iload_n hx hb dX10_placeInOrder_14 rfl (lv_at hl 2 rfl) ?_
      obtain ⟨hi2, hw⟩ := hw
      refine g_iald (n := 6) hE hG (kd_lt km12 (by decide)) (ce_int km12 (by decide) (by decide)) hi2 dX10_placeInOrder_15 ?_
      refine lv_iload_n hx hb dX10_placeInOrder_16 rfl (lv_at hl 1 rfl) ?_
      refine lv_icmp_ne (tgt := 22) hx hb dX10_placeInOrder_17 (by decide) (fun hc3 => ?_) (fun hc3 => ?_)
      · have hw := hw.1 hc3
        obtain ⟨x4, ex4⟩ : ∃ z : Int32, z = v2 + (1 : Int32) := ⟨_, rfl⟩
        have hw := hw x4 ex4
        refine lv_iinc (v := x4) (lv' := [(2, .int x4), (0, .ref (X.2.1 0)), (1, .int v1)]) hx hb dX10_placeInOrder_22 hl (k := 2) rfl (by rw [ex4]; rfl) (by decide) rfl (fun ls hl => ?_)
        refine lv_goto (tgt := 2) hx hb dX10_placeInOrder_25 (by decide) ?_
        exact ih _ _ _ _ _ hw hG (lv_sub hl [1, 2, 0] rfl)
      · have hw := hw.2 hc3
        refine lv_iload_n hx hb dX10_placeInOrder_20 rfl (lv_at hl 2 rfl) ?_
        exact g_iret hE hG hr hlk dX10_placeInOrder_21 hw

set_option maxHeartbeats 4000000 in
set_option maxRecDepth 100000 in
theorem m_X10_placeInOrder (l : Launch) (X : wX) {Q : Int32 → St → Prop} {v1 : Int32} {σ : St} (hw : wp_X10_placeInOrder Q v1 σ) : mI X kmL l yX10_placeInOrder wsX10_placeInOrder rm_X10_placeInOrder [.ref (X.2.1 0), .int v1] σ Q := by
  refine mI.of (cc := cX10_placeInOrder) (maxL := 3) (ret := (some .int)) (by decide +kernel) rfl (Nat.le_of_ble_eq_true rfl) ?_
  intro A p e s m args below meth c ls hE hr hlk hl hG
  have hx := hE.1.1
  have hb := hE.1.2.1
  unfold wp_X10_placeInOrder at hw
  have hl : lv_has ls 3 [(0, .ref (X.2.1 0)), (1, .int v1)] := hl
  refine lv_iconst (v := 0) hx hb dX10_placeInOrder_0 (by decide) ?_
  refine lv_istore_n (lv' := [(2, .int (0 : Int32)), (0, .ref (X.2.1 0)), (1, .int v1)]) hx hb dX10_placeInOrder_1 rfl hl (by decide) rfl (fun ls hl => ?_)
  obtain ⟨n, hw⟩ := hw
  exact b_X10_placeInOrder_2 hE hr hlk n _ _ _ _ _ hw hG (lv_sub hl [1, 2, 0] rfl)

set_option maxHeartbeats 4000000 in
set_option maxRecDepth 100000 in
theorem b_X10_stop_84 {p : Program} {l : Launch} {e : Env} {s : State} {m : MethodId} {args : Array Value} {below : List Frame} {meth : Method} {c : Code} {X : wX} {A : Nat → Prop} {H : Heap} {locs : List Loc} {ls : Array Slot} {σ : St} (hE : eV p m c cX10_stop 4 s args wsX10_stop RX10 X) (hr : meth.sig.returnType = (some .int)) (hlk : meth.locks = false) {Q : Int32 → St → Prop} {z0 : Int32} (hw : wb_X10_stop_84 Q z0 σ) (hG : gW X kmL A s.heap σ H locs) (hl : lv_has ls 4 [(0, .ref (X.2.1 0))]) : W p l e rm_X10_stop s m args below meth c H locs 0 0 (zI X kmL below args s A Q) (F0 m 84 ls [.int z0, .ref (X.2.1 0)]) := by
  have hx := hE.1.1
  have hb := hE.1.2.1
  unfold wb_X10_stop_84 at hw
  refine g_put (k := 16) (x := z0) (ty := .int) hE hG (kd_lt km0 (by decide)) (ce_10 km0) (by rw [ce_10 km0]; rfl) rfl (by decide +kernel) tyX10 tyX10_ok nmX10 (by decide) (by decide +kernel) rfl rfl (by decide +kernel) rfl rfl (Nat.le_of_ble_eq_true rfl) dX10_stop_84 (fun σ10 H locs eσ10 hG => ?_)
  have hw := hw σ10 eσ10
  refine lv_aload_n hx hb dX10_stop_87 rfl (lv_at hl 0 rfl) ?_
  refine lv_aload_n hx hb dX10_stop_88 rfl (lv_at hl 0 rfl) ?_
  refine g_get (k := 16) hE hG (kd_lt km0 (by decide)) (ce_10 km0) rfl (by decide +kernel) (by decide) (by decide +kernel) rfl rfl dX10_stop_89 ?_
  refine lv_aload_n hx hb dX10_stop_92 rfl (lv_at hl 0 rfl) ?_
  refine g_get (k := 14) hE hG (kd_lt km0 (by decide)) (ce_10 km0) rfl (by decide +kernel) (by decide) (by decide +kernel) rfl rfl dX10_stop_93 ?_
  refine lv_icmp_lt (tgt := 103) hx hb dX10_stop_96 (by decide) (fun hc11 => ?_) (fun hc11 => ?_)
  · have hw := hw.1 hc11
    refine lv_aload_n hx hb dX10_stop_103 rfl (lv_at hl 0 rfl) ?_
    refine g_get (k := 16) hE hG (kd_lt km0 (by decide)) (ce_10 km0) rfl (by decide +kernel) (by decide) (by decide +kernel) rfl rfl dX10_stop_104 ?_
    refine g_put (k := 16) (x := (σ10 0 16)) (ty := .int) hE hG (kd_lt km0 (by decide)) (ce_10 km0) (by rw [ce_10 km0]; rfl) rfl (by decide +kernel) tyX10 tyX10_ok nmX10 (by decide) (by decide +kernel) rfl rfl (by decide +kernel) rfl rfl (Nat.le_of_ble_eq_true rfl) dX10_stop_107 (fun σ12 H locs eσ12 hG => ?_)
    have hw := hw σ12 eσ12
    refine lv_aload_n hx hb dX10_stop_110 rfl (lv_at hl 0 rfl) ?_
    refine g_get (k := 14) hE hG (kd_lt km0 (by decide)) (ce_10 km0) rfl (by decide +kernel) (by decide) (by decide +kernel) rfl rfl dX10_stop_111 ?_
    exact g_iret hE hG hr hlk dX10_stop_114 hw
  · have hw := hw.2 hc11
    refine lv_iconst (v := 0) hx hb dX10_stop_99 (by decide) ?_
    refine lv_goto (tgt := 107) hx hb dX10_stop_100 (by decide) ?_
    refine g_put (k := 16) (x := (0 : Int32)) (ty := .int) hE hG (kd_lt km0 (by decide)) (ce_10 km0) (by rw [ce_10 km0]; rfl) rfl (by decide +kernel) tyX10 tyX10_ok nmX10 (by decide) (by decide +kernel) rfl rfl (by decide +kernel) rfl rfl (Nat.le_of_ble_eq_true rfl) dX10_stop_107 (fun σ13 H locs eσ13 hG => ?_)
    have hw := hw σ13 eσ13
    refine lv_aload_n hx hb dX10_stop_110 rfl (lv_at hl 0 rfl) ?_
    refine g_get (k := 14) hE hG (kd_lt km0 (by decide)) (ce_10 km0) rfl (by decide +kernel) (by decide) (by decide +kernel) rfl rfl dX10_stop_111 ?_
    exact g_iret hE hG hr hlk dX10_stop_114 hw

set_option maxHeartbeats 4000000 in
set_option maxRecDepth 100000 in
theorem b_X10_stop_34 {p : Program} {l : Launch} {e : Env} {s : State} {m : MethodId} {args : Array Value} {below : List Frame} {meth : Method} {c : Code} {X : wX} {A : Nat → Prop} (hE : eV p m c cX10_stop 4 s args wsX10_stop RX10 X) (hr : meth.sig.returnType = (some .int)) (hlk : meth.locks = false) {Q : Int32 → St → Prop} {v2 : Int32} : ∀ (n : Nat) (σ : St) (v3 : Int32) (H : Heap) (locs : List Loc) (ls : Array Slot), wl_X10_stop_34 Q v2 n σ v3 → gW X kmL A s.heap σ H locs → lv_has ls 4 [(0, .ref (X.2.1 0)), (2, .int v2), (3, .int v3)] → W p l e rm_X10_stop s m args below meth c H locs 0 0 (zI X kmL below args s A Q) (F0 m 34 ls []) := by
  have hx := hE.1.1
  have hb := hE.1.2.1
  intro n
  induction n with
  | zero =>
    intro σ v3 H locs ls hw
    exact False.elim hw
  | succ n ih =>
    intro σ v3 H locs ls hw hG hl
    have hw : wB_X10_stop_34 Q (wl_X10_stop_34 Q v2 n) v2 σ v3 := hw
    unfold wB_X10_stop_34 at hw
    refine lv_iload_n hx hb dX10_stop_34 rfl (lv_at hl 2 rfl) ?_
    refine lv_aload_n hx hb dX10_stop_35 rfl (lv_at hl 0 rfl) ?_
    refine g_get (k := 14) hE hG (kd_lt km0 (by decide)) (ce_10 km0) rfl (by decide +kernel) (by decide) (by decide +kernel) rfl rfl dX10_stop_36 ?_
    refine lv_icmp_ge (tgt := 62) hx hb dX10_stop_39 (by decide) (fun hc8 => ?_) (fun hc8 => ?_)
    · have hw := hw.1 hc8
      refine lv_aload_n hx hb dX10_stop_62 rfl (lv_at hl 0 rfl) ?_
      refine lv_iload_n hx hb dX10_stop_63 rfl (lv_at hl 1 rfl) ?_
      refine lv_aload_n hx hb dX10_stop_64 rfl (lv_at hl 0 rfl) ?_
      refine g_get (k := 16) hE hG (kd_lt km0 (by decide)) (ce_10 km0) rfl (by decide +kernel) (by decide) (by decide +kernel) rfl rfl dX10_stop_65 ?_
      refine lv_icmp_ge (tgt := 80) hx hb dX10_stop_68 (by decide) (fun hc9 => ?_) (fun hc9 => ?_)
      · have hw := hw.1 hc9
        refine lv_aload_n hx hb dX10_stop_80 rfl (lv_at hl 0 rfl) ?_
        refine g_get (k := 16) hE hG (kd_lt km0 (by decide)) (ce_10 km0) rfl (by decide +kernel) (by decide) (by decide +kernel) rfl rfl dX10_stop_81 ?_
        exact b_X10_stop_84 hE hr hlk hw hG (lv_sub hl [0] rfl)
      · have hw := hw.2 hc9
        refine lv_aload_n hx hb dX10_stop_71 rfl (lv_at hl 0 rfl) ?_
        refine g_get (k := 16) hE hG (kd_lt km0 (by decide)) (ce_10 km0) rfl (by decide +kernel) (by decide) (by decide +kernel) rfl rfl dX10_stop_72 ?_
        refine lv_iconst (v := 1) hx hb dX10_stop_75 (by decide) ?_
        refine lv_isub hx hb dX10_stop_76 ?_
        refine lv_goto (tgt := 84) hx hb dX10_stop_77 (by decide) ?_
        exact b_X10_stop_84 hE hr hlk hw hG (lv_sub hl [0] rfl)
    · have hw := hw.2 hc8
      refine lv_aload_n hx hb dX10_stop_42 rfl (lv_at hl 0 rfl) ?_
      refine g_get (k := 15) hE hG (kd_lt km0 (by decide)) (ce_10 km0) rfl (by decide +kernel) (by decide) (by decide +kernel) rfl rfl dX10_stop_43 ?_
      refine lv_iload_n hx hb dX10_stop_46 rfl (lv_at hl 2 rfl) ?_
      refine lv_aload_n hx hb dX10_stop_47 rfl (lv_at hl 0 rfl) ?_
      refine g_get (k := 15) hE hG (kd_lt km0 (by decide)) (ce_10 km0) rfl (by decide +kernel) (by decide) (by decide +kernel) rfl rfl dX10_stop_48 ?_
      refine lv_iload_n hx hb dX10_stop_51 rfl (lv_at hl 2 rfl) ?_
      refine lv_iconst (v := 1) hx hb dX10_stop_52 (by decide) ?_
      refine lv_iadd hx hb dX10_stop_53 ?_
      obtain ⟨hi14, hw⟩ := hw
      refine g_iald (n := 6) hE hG (kd_lt km12 (by decide)) (ce_int km12 (by decide) (by decide)) hi14 dX10_stop_54 ?_
      obtain ⟨hi15, hw⟩ := hw
      refine g_iast (n := 6) hE hG (kd_lt km12 (by decide)) (fun _ => ce_int km12 (by decide) (by decide)) hi15 dX10_stop_55 (fun σ16 H locs eσ16 hG => ?_)
      have hw := hw σ16 eσ16
      obtain ⟨x17, ex17⟩ : ∃ z : Int32, z = v3 + (1 : Int32) := ⟨_, rfl⟩
      have hw := hw x17 ex17
      refine lv_iinc (v := x17) (lv' := [(3, .int x17), (0, .ref (X.2.1 0)), (2, .int v2)]) hx hb dX10_stop_56 hl (k := 2) rfl (by rw [ex17]; rfl) (by decide) rfl (fun ls hl => ?_)
      refine lv_goto (tgt := 34) hx hb dX10_stop_59 (by decide) ?_
      exact ih _ _ _ _ _ hw hG (lv_sub hl [1, 2, 0] rfl)

set_option maxHeartbeats 4000000 in
set_option maxRecDepth 100000 in
theorem m_X10_stop (l : Launch) (X : wX) {Q : Int32 → St → Prop} {v1 : Int32} {σ : St} (hw : wp_X10_stop Q v1 σ) : mI X kmL l yX10_stop wsX10_stop rm_X10_stop [.ref (X.2.1 0), .int v1] σ Q := by
  refine mI.of (cc := cX10_stop) (maxL := 4) (ret := (some .int)) (by decide +kernel) rfl (Nat.le_of_ble_eq_true rfl) ?_
  intro A p e s m args below meth c ls hE hr hlk hl hG
  have hx := hE.1.1
  have hb := hE.1.2.1
  unfold wp_X10_stop at hw
  have hl : lv_has ls 4 [(0, .ref (X.2.1 0)), (1, .int v1)] := hl
  refine lv_iload_n hx hb dX10_stop_0 rfl (lv_at hl 1 rfl) ?_
  refine g_calli hG (g_runS (rm := rm_X10_isSection) (As := [.int v1]) (rest := []) (n := 1) hE hG (m_X10_isSection l X hw _) gX10_stop_X10_isSection rfl rfl rfl (by decide +kernel) ⟨Nat.le_of_ble_eq_true rfl, Nat.le_of_ble_eq_true rfl⟩ rfl hl.1 (Nat.le_of_ble_eq_true rfl) dX10_stop_1 ⟨Nat.zero_le _, Nat.zero_le _⟩) (fun r1 σ2 H locs hw hG => ?_)
  refine lv_if_ne (tgt := 9) hx hb dX10_stop_4 (by decide) (fun hc3 => ?_) (fun hc3 => ?_)
  · have hw := hw.1 hc3
    refine lv_aload_n hx hb dX10_stop_9 rfl (lv_at hl 0 rfl) ?_
    refine lv_iload_n hx hb dX10_stop_10 rfl (lv_at hl 1 rfl) ?_
    refine g_calli hG (g_runV (rm := rm_X10_placeInOrder) (As := [.int v1]) (rest := []) (n := 1) hE hG (m_X10_placeInOrder l X hw _) gX10_stop_X10_placeInOrder rfl rfl rfl (by decide +kernel) ⟨Nat.le_of_ble_eq_true rfl, Nat.le_of_ble_eq_true rfl⟩ (kd_lt km0 (by decide)) (ce_10 km0) rfl rfl rfl hl.1 (Nat.le_of_ble_eq_true rfl) dX10_stop_11 ⟨Nat.zero_le _, Nat.zero_le _⟩) (fun r4 σ5 H locs hw hG => ?_)
    refine lv_istore_n (lv' := [(2, .int r4), (0, .ref (X.2.1 0)), (1, .int v1)]) hx hb dX10_stop_14 rfl hl (by decide) rfl (fun ls hl => ?_)
    refine lv_iload_n hx hb dX10_stop_15 rfl (lv_at hl 0 rfl) ?_
    refine lv_if_ge (tgt := 22) hx hb dX10_stop_16 (by decide) (fun hc6 => ?_) (fun hc6 => ?_)
    · have hw := hw.1 hc6
      refine lv_aload_n hx hb dX10_stop_22 rfl (lv_at hl 1 rfl) ?_
      refine lv_dup hx hb dX10_stop_23 rfl ?_
      refine g_get (k := 14) hE hG (kd_lt km0 (by decide)) (ce_10 km0) rfl (by decide +kernel) (by decide) (by decide +kernel) rfl rfl dX10_stop_24 ?_
      refine lv_iconst (v := 1) hx hb dX10_stop_27 (by decide) ?_
      refine lv_isub hx hb dX10_stop_28 ?_
      refine g_put (k := 14) (x := ((σ5 0 14) - (1 : Int32))) (ty := .int) hE hG (kd_lt km0 (by decide)) (ce_10 km0) (by rw [ce_10 km0]; rfl) rfl (by decide +kernel) tyX10 tyX10_ok nmX10 (by decide) (by decide +kernel) rfl rfl (by decide +kernel) rfl rfl (Nat.le_of_ble_eq_true rfl) dX10_stop_29 (fun σ7 H locs eσ7 hG => ?_)
      have hw := hw σ7 eσ7
      refine lv_iload_n hx hb dX10_stop_32 rfl (lv_at hl 0 rfl) ?_
      refine lv_istore_n (lv' := [(3, .int r4), (2, .int r4), (0, .ref (X.2.1 0)), (1, .int v1)]) hx hb dX10_stop_33 rfl hl (by decide) rfl (fun ls hl => ?_)
      obtain ⟨n, hw⟩ := hw
      exact b_X10_stop_34 hE hr hlk n _ _ _ _ _ hw hG (lv_sub hl [2, 1, 0] rfl)
    · have hw := hw.2 hc6
      refine lv_bipush (v := (-3)) hx hb dX10_stop_19 (by decide) ?_
      exact g_iret hE hG hr hlk dX10_stop_21 hw
  · have hw := hw.2 hc3
    refine lv_iconst (v := (-1)) hx hb dX10_stop_7 (by decide) ?_
    exact g_iret hE hG hr hlk dX10_stop_8 hw

set_option maxHeartbeats 4000000 in
set_option maxRecDepth 100000 in
theorem m_X10_start (l : Launch) (X : wX) {Q : Int32 → St → Prop} {v1 : Int32} {σ : St} (hw : wp_X10_start Q v1 σ) : mI X kmL l yX10_start wsX10_start rm_X10_start [.ref (X.2.1 0), .int v1] σ Q := by
  refine mI.of (cc := cX10_start) (maxL := 2) (ret := (some .int)) (by decide +kernel) rfl (Nat.le_of_ble_eq_true rfl) ?_
  intro A p e s m args below meth c ls hE hr hlk hl hG
  have hx := hE.1.1
  have hb := hE.1.2.1
  unfold wp_X10_start at hw
  have hl : lv_has ls 2 [(0, .ref (X.2.1 0)), (1, .int v1)] := hl
  refine lv_iload_n hx hb dX10_start_0 rfl (lv_at hl 1 rfl) ?_
  refine g_calli hG (g_runS (rm := rm_X10_isSection) (As := [.int v1]) (rest := []) (n := 1) hE hG (m_X10_isSection l X hw _) gX10_start_X10_isSection rfl rfl rfl (by decide +kernel) ⟨Nat.le_of_ble_eq_true rfl, Nat.le_of_ble_eq_true rfl⟩ rfl hl.1 (Nat.le_of_ble_eq_true rfl) dX10_start_1 ⟨Nat.zero_le _, Nat.zero_le _⟩) (fun r1 σ2 H locs hw hG => ?_)
  refine lv_if_ne (tgt := 9) hx hb dX10_start_4 (by decide) (fun hc3 => ?_) (fun hc3 => ?_)
  · have hw := hw.1 hc3
    refine lv_aload_n hx hb dX10_start_9 rfl (lv_at hl 0 rfl) ?_
    refine lv_iload_n hx hb dX10_start_10 rfl (lv_at hl 1 rfl) ?_
    refine g_calli hG (g_runV (rm := rm_X10_placeInOrder) (As := [.int v1]) (rest := []) (n := 1) hE hG (m_X10_placeInOrder l X hw _) gX10_start_X10_placeInOrder rfl rfl rfl (by decide +kernel) ⟨Nat.le_of_ble_eq_true rfl, Nat.le_of_ble_eq_true rfl⟩ (kd_lt km0 (by decide)) (ce_10 km0) rfl rfl rfl hl.1 (Nat.le_of_ble_eq_true rfl) dX10_start_11 ⟨Nat.zero_le _, Nat.zero_le _⟩) (fun r4 σ5 H locs hw hG => ?_)
    refine lv_if_lt (tgt := 20) hx hb dX10_start_14 (by decide) (fun hc6 => ?_) (fun hc6 => ?_)
    · have hw := hw.1 hc6
      refine lv_aload_n hx hb dX10_start_20 rfl (lv_at hl 0 rfl) ?_
      refine g_get (k := 15) hE hG (kd_lt km0 (by decide)) (ce_10 km0) rfl (by decide +kernel) (by decide) (by decide +kernel) rfl rfl dX10_start_21 ?_
      refine lv_aload_n hx hb dX10_start_24 rfl (lv_at hl 0 rfl) ?_
      refine g_get (k := 14) hE hG (kd_lt km0 (by decide)) (ce_10 km0) rfl (by decide +kernel) (by decide) (by decide +kernel) rfl rfl dX10_start_25 ?_
      refine lv_iload_n hx hb dX10_start_28 rfl (lv_at hl 1 rfl) ?_
      obtain ⟨hi7, hw⟩ := hw
      refine g_iast (n := 6) hE hG (kd_lt km12 (by decide)) (fun _ => ce_int km12 (by decide) (by decide)) hi7 dX10_start_29 (fun σ8 H locs eσ8 hG => ?_)
      have hw := hw σ8 eσ8
      refine lv_aload_n hx hb dX10_start_30 rfl (lv_at hl 0 rfl) ?_
      refine lv_dup hx hb dX10_start_31 rfl ?_
      refine g_get (k := 14) hE hG (kd_lt km0 (by decide)) (ce_10 km0) rfl (by decide +kernel) (by decide) (by decide +kernel) rfl rfl dX10_start_32 ?_
      refine lv_iconst (v := 1) hx hb dX10_start_35 (by decide) ?_
      refine lv_iadd hx hb dX10_start_36 ?_
      refine g_put (k := 14) (x := ((σ8 0 14) + (1 : Int32))) (ty := .int) hE hG (kd_lt km0 (by decide)) (ce_10 km0) (by rw [ce_10 km0]; rfl) rfl (by decide +kernel) tyX10 tyX10_ok nmX10 (by decide) (by decide +kernel) rfl rfl (by decide +kernel) rfl rfl (Nat.le_of_ble_eq_true rfl) dX10_start_37 (fun σ9 H locs eσ9 hG => ?_)
      have hw := hw σ9 eσ9
      refine lv_aload_n hx hb dX10_start_40 rfl (lv_at hl 0 rfl) ?_
      refine g_get (k := 14) hE hG (kd_lt km0 (by decide)) (ce_10 km0) rfl (by decide +kernel) (by decide) (by decide +kernel) rfl rfl dX10_start_41 ?_
      exact g_iret hE hG hr hlk dX10_start_44 hw
    · have hw := hw.2 hc6
      refine lv_bipush (v := (-3)) hx hb dX10_start_17 (by decide) ?_
      exact g_iret hE hG hr hlk dX10_start_19 hw
  · have hw := hw.2 hc3
    refine lv_iconst (v := (-1)) hx hb dX10_start_7 (by decide) ?_
    exact g_iret hE hG hr hlk dX10_start_8 hw

set_option maxHeartbeats 4000000 in
set_option maxRecDepth 100000 in
theorem m_X10_job (l : Launch) (X : wX) {Q : Int32 → St → Prop} {v1 : Int32} {v2 : Int32} {σ : St} (hw : wp_X10_job Q v1 v2 σ) : mI X kmL l yX10_job wsX10_job rm_X10_job [.ref (X.2.1 0), .int v1, .int v2] σ Q := by
  refine mI.of (cc := cX10_job) (maxL := 4) (ret := (some .int)) (by decide +kernel) rfl (Nat.le_of_ble_eq_true rfl) ?_
  intro A p e s m args below meth c ls hE hr hlk hl hG
  have hx := hE.1.1
  have hb := hE.1.2.1
  unfold wp_X10_job at hw
  have hl : lv_has ls 4 [(0, .ref (X.2.1 0)), (1, .int v1), (2, .int v2)] := hl
  refine lv_iload_n hx hb dX10_job_0 rfl (lv_at hl 1 rfl) ?_
  refine g_calli hG (g_runS (rm := rm_X10_isSection) (As := [.int v1]) (rest := []) (n := 1) hE hG (m_X10_isSection l X hw _) gX10_job_X10_isSection rfl rfl rfl (by decide +kernel) ⟨Nat.le_of_ble_eq_true rfl, Nat.le_of_ble_eq_true rfl⟩ rfl hl.1 (Nat.le_of_ble_eq_true rfl) dX10_job_1 ⟨Nat.zero_le _, Nat.zero_le _⟩) (fun r1 σ2 H locs hw hG => ?_)
  refine lv_if_eq (tgt := 14) hx hb dX10_job_4 (by decide) (fun hc3 => ?_) (fun hc3 => ?_)
  · have hw := hw.1 hc3
    refine lv_iconst (v := (-1)) hx hb dX10_job_14 (by decide) ?_
    exact g_iret hE hG hr hlk dX10_job_15 hw
  · have hw := hw.2 hc3
    refine lv_iload_n hx hb dX10_job_7 rfl (lv_at hl 2 rfl) ?_
    refine g_calli hG (g_runS (rm := rm_X10_isJob) (As := [.int v2]) (rest := []) (n := 1) hE hG (m_X10_isJob l X hw _) gX10_job_X10_isJob rfl rfl rfl (by decide +kernel) ⟨Nat.le_of_ble_eq_true rfl, Nat.le_of_ble_eq_true rfl⟩ rfl hl.1 (Nat.le_of_ble_eq_true rfl) dX10_job_8 ⟨Nat.zero_le _, Nat.zero_le _⟩) (fun r4 σ5 H locs hw hG => ?_)
    refine lv_if_ne (tgt := 16) hx hb dX10_job_11 (by decide) (fun hc6 => ?_) (fun hc6 => ?_)
    · have hw := hw.1 hc6
      refine lv_aload_n hx hb dX10_job_16 rfl (lv_at hl 0 rfl) ?_
      refine g_get (k := 17) hE hG (kd_lt km0 (by decide)) (ce_10 km0) rfl (by decide +kernel) (by decide) (by decide +kernel) rfl rfl dX10_job_17 ?_
      refine lv_iload_n hx hb dX10_job_20 rfl (lv_at hl 1 rfl) ?_
      obtain ⟨hi7, hw⟩ := hw
      refine g_iald (n := 6) hE hG (kd_lt km13 (by decide)) (ce_int km13 (by decide) (by decide)) hi7 dX10_job_21 ?_
      refine lv_topi (fun x8 ex8 => ?_)
      have hw := hw x8 ex8
      refine lv_istore_n (lv' := [(3, .int x8), (0, .ref (X.2.1 0)), (1, .int v1), (2, .int v2)]) hx hb dX10_job_22 rfl hl (by decide) rfl (fun ls hl => ?_)
      refine lv_aload_n hx hb dX10_job_23 rfl (lv_at hl 1 rfl) ?_
      refine g_get (k := 17) hE hG (kd_lt km0 (by decide)) (ce_10 km0) rfl (by decide +kernel) (by decide) (by decide +kernel) rfl rfl dX10_job_24 ?_
      refine lv_iload_n hx hb dX10_job_27 rfl (lv_at hl 2 rfl) ?_
      refine lv_iload_n hx hb dX10_job_28 rfl (lv_at hl 3 rfl) ?_
      obtain ⟨hi9, hw⟩ := hw
      refine g_iast (n := 6) hE hG (kd_lt km13 (by decide)) (fun _ => ce_int km13 (by decide) (by decide)) hi9 dX10_job_29 (fun σ10 H locs eσ10 hG => ?_)
      have hw := hw σ10 eσ10
      refine lv_iload_n hx hb dX10_job_30 rfl (lv_at hl 0 rfl) ?_
      exact g_iret hE hG hr hlk dX10_job_31 hw
    · have hw := hw.2 hc6
      refine lv_iconst (v := (-1)) hx hb dX10_job_14 (by decide) ?_
      exact g_iret hE hG hr hlk dX10_job_15 hw

set_option maxHeartbeats 4000000 in
set_option maxRecDepth 100000 in
theorem m_X10_aim (l : Launch) (X : wX) {Q : Int32 → St → Prop} {v1 : Int32} {v2 : Int32} {v3 : Int32} {σ : St} (hw : wp_X10_aim Q v1 v2 v3 σ) : mI X kmL l yX10_aim wsX10_aim rm_X10_aim [.ref (X.2.1 0), .int v1, .int v2, .int v3] σ Q := by
  refine mI.of (cc := cX10_aim) (maxL := 4) (ret := (some .int)) (by decide +kernel) rfl (Nat.le_of_ble_eq_true rfl) ?_
  intro A p e s m args below meth c ls hE hr hlk hl hG
  have hx := hE.1.1
  have hb := hE.1.2.1
  unfold wp_X10_aim at hw
  have hl : lv_has ls 4 [(0, .ref (X.2.1 0)), (1, .int v1), (2, .int v2), (3, .int v3)] := hl
  refine lv_iload_n hx hb dX10_aim_0 rfl (lv_at hl 1 rfl) ?_
  refine g_calli hG (g_runS (rm := rm_X10_isJob) (As := [.int v1]) (rest := []) (n := 1) hE hG (m_X10_isJob l X hw _) gX10_aim_X10_isJob rfl rfl rfl (by decide +kernel) ⟨Nat.le_of_ble_eq_true rfl, Nat.le_of_ble_eq_true rfl⟩ rfl hl.1 (Nat.le_of_ble_eq_true rfl) dX10_aim_1 ⟨Nat.zero_le _, Nat.zero_le _⟩) (fun r1 σ2 H locs hw hG => ?_)
  refine lv_if_eq (tgt := 28) hx hb dX10_aim_4 (by decide) (fun hc3 => ?_) (fun hc3 => ?_)
  · have hw := hw.1 hc3
    refine lv_iconst (v := (-1)) hx hb dX10_aim_28 (by decide) ?_
    exact g_iret hE hG hr hlk dX10_aim_29 hw
  · have hw := hw.2 hc3
    refine lv_iload_n hx hb dX10_aim_7 rfl (lv_at hl 2 rfl) ?_
    refine lv_bipush (v := (100)) hx hb dX10_aim_8 (by decide) ?_
    refine lv_sipush (v := (900)) hx hb dX10_aim_10 (by decide) ?_
    refine g_calli hG (g_runS (rm := rm_X10_in) (As := [.int v2, .int (100 : Int32), .int (900 : Int32)]) (rest := []) (n := 3) hE hG (m_X10_in l X hw _) gX10_aim_X10_in rfl rfl rfl (by decide +kernel) ⟨Nat.le_of_ble_eq_true rfl, Nat.le_of_ble_eq_true rfl⟩ rfl hl.1 (Nat.le_of_ble_eq_true rfl) dX10_aim_13 ⟨Nat.zero_le _, Nat.zero_le _⟩) (fun r4 σ5 H locs hw hG => ?_)
    refine lv_if_eq (tgt := 28) hx hb dX10_aim_16 (by decide) (fun hc6 => ?_) (fun hc6 => ?_)
    · have hw := hw.1 hc6
      refine lv_iconst (v := (-1)) hx hb dX10_aim_28 (by decide) ?_
      exact g_iret hE hG hr hlk dX10_aim_29 hw
    · have hw := hw.2 hc6
      refine lv_iload_n hx hb dX10_aim_19 rfl (lv_at hl 3 rfl) ?_
      refine lv_iconst (v := 0) hx hb dX10_aim_20 (by decide) ?_
      refine lv_iconst (v := 3) hx hb dX10_aim_21 (by decide) ?_
      refine g_calli hG (g_runS (rm := rm_X10_in) (As := [.int v3, .int (0 : Int32), .int (3 : Int32)]) (rest := []) (n := 3) hE hG (m_X10_in l X hw _) gX10_aim_X10_in rfl rfl rfl (by decide +kernel) ⟨Nat.le_of_ble_eq_true rfl, Nat.le_of_ble_eq_true rfl⟩ rfl hl.1 (Nat.le_of_ble_eq_true rfl) dX10_aim_22 ⟨Nat.zero_le _, Nat.zero_le _⟩) (fun r7 σ8 H locs hw hG => ?_)
      refine lv_if_ne (tgt := 30) hx hb dX10_aim_25 (by decide) (fun hc9 => ?_) (fun hc9 => ?_)
      · have hw := hw.1 hc9
        refine lv_aload_n hx hb dX10_aim_30 rfl (lv_at hl 0 rfl) ?_
        refine g_get (k := 19) hE hG (kd_lt km0 (by decide)) (ce_10 km0) rfl (by decide +kernel) (by decide) (by decide +kernel) rfl rfl dX10_aim_31 ?_
        refine lv_iload_n hx hb dX10_aim_34 rfl (lv_at hl 1 rfl) ?_
        refine lv_iload_n hx hb dX10_aim_35 rfl (lv_at hl 2 rfl) ?_
        obtain ⟨hi10, hw⟩ := hw
        refine g_iast (n := 4) hE hG (kd_lt km15 (by decide)) (fun _ => ce_int km15 (by decide) (by decide)) hi10 dX10_aim_36 (fun σ11 H locs eσ11 hG => ?_)
        have hw := hw σ11 eσ11
        refine lv_aload_n hx hb dX10_aim_37 rfl (lv_at hl 0 rfl) ?_
        refine g_get (k := 20) hE hG (kd_lt km0 (by decide)) (ce_10 km0) rfl (by decide +kernel) (by decide) (by decide +kernel) rfl rfl dX10_aim_38 ?_
        refine lv_iload_n hx hb dX10_aim_41 rfl (lv_at hl 1 rfl) ?_
        refine lv_iload_n hx hb dX10_aim_42 rfl (lv_at hl 3 rfl) ?_
        obtain ⟨hi12, hw⟩ := hw
        refine g_iast (n := 4) hE hG (kd_lt km16 (by decide)) (fun _ => ce_int km16 (by decide) (by decide)) hi12 dX10_aim_43 (fun σ13 H locs eσ13 hG => ?_)
        have hw := hw σ13 eσ13
        refine lv_iconst (v := 1) hx hb dX10_aim_44 (by decide) ?_
        exact g_iret hE hG hr hlk dX10_aim_45 hw
      · have hw := hw.2 hc9
        refine lv_iconst (v := (-1)) hx hb dX10_aim_28 (by decide) ?_
        exact g_iret hE hG hr hlk dX10_aim_29 hw

set_option maxHeartbeats 4000000 in
set_option maxRecDepth 100000 in
theorem m_X10_glass (l : Launch) (X : wX) {Q : Int32 → St → Prop} {v1 : Int32} {v2 : Int32} {σ : St} (hw : wp_X10_glass Q v1 v2 σ) : mI X kmL l yX10_glass wsX10_glass rm_X10_glass [.ref (X.2.1 0), .int v1, .int v2] σ Q := by
  refine mI.of (cc := cX10_glass) (maxL := 3) (ret := (some .int)) (by decide +kernel) rfl (Nat.le_of_ble_eq_true rfl) ?_
  intro A p e s m args below meth c ls hE hr hlk hl hG
  have hx := hE.1.1
  have hb := hE.1.2.1
  unfold wp_X10_glass at hw
  have hl : lv_has ls 3 [(0, .ref (X.2.1 0)), (1, .int v1), (2, .int v2)] := hl
  refine lv_iload_n hx hb dX10_glass_0 rfl (lv_at hl 1 rfl) ?_
  refine lv_iconst (v := 0) hx hb dX10_glass_1 (by decide) ?_
  refine lv_iconst (v := 3) hx hb dX10_glass_2 (by decide) ?_
  refine g_calli hG (g_runS (rm := rm_X10_in) (As := [.int v1, .int (0 : Int32), .int (3 : Int32)]) (rest := []) (n := 3) hE hG (m_X10_in l X hw _) gX10_glass_X10_in rfl rfl rfl (by decide +kernel) ⟨Nat.le_of_ble_eq_true rfl, Nat.le_of_ble_eq_true rfl⟩ rfl hl.1 (Nat.le_of_ble_eq_true rfl) dX10_glass_3 ⟨Nat.zero_le _, Nat.zero_le _⟩) (fun r1 σ2 H locs hw hG => ?_)
  refine lv_if_eq (tgt := 19) hx hb dX10_glass_6 (by decide) (fun hc3 => ?_) (fun hc3 => ?_)
  · have hw := hw.1 hc3
    refine lv_iconst (v := (-1)) hx hb dX10_glass_19 (by decide) ?_
    exact g_iret hE hG hr hlk dX10_glass_20 hw
  · have hw := hw.2 hc3
    refine lv_iload_n hx hb dX10_glass_9 rfl (lv_at hl 2 rfl) ?_
    refine lv_iconst (v := 0) hx hb dX10_glass_10 (by decide) ?_
    refine lv_bipush (v := (50)) hx hb dX10_glass_11 (by decide) ?_
    refine g_calli hG (g_runS (rm := rm_X10_in) (As := [.int v2, .int (0 : Int32), .int (50 : Int32)]) (rest := []) (n := 3) hE hG (m_X10_in l X hw _) gX10_glass_X10_in rfl rfl rfl (by decide +kernel) ⟨Nat.le_of_ble_eq_true rfl, Nat.le_of_ble_eq_true rfl⟩ rfl hl.1 (Nat.le_of_ble_eq_true rfl) dX10_glass_13 ⟨Nat.zero_le _, Nat.zero_le _⟩) (fun r4 σ5 H locs hw hG => ?_)
    refine lv_if_ne (tgt := 21) hx hb dX10_glass_16 (by decide) (fun hc6 => ?_) (fun hc6 => ?_)
    · have hw := hw.1 hc6
      refine lv_iload_n hx hb dX10_glass_21 rfl (lv_at hl 1 rfl) ?_
      refine lv_aload_n hx hb dX10_glass_22 rfl (lv_at hl 0 rfl) ?_
      refine g_get (k := 29) hE hG (kd_lt km0 (by decide)) (ce_10 km0) rfl (by decide +kernel) (by decide) (by decide +kernel) rfl rfl dX10_glass_23 ?_
      refine lv_icmp_ne (tgt := 32) hx hb dX10_glass_26 (by decide) (fun hc7 => ?_) (fun hc7 => ?_)
      · have hw := hw.1 hc7
        refine lv_aload_n hx hb dX10_glass_32 rfl (lv_at hl 0 rfl) ?_
        refine lv_iload_n hx hb dX10_glass_33 rfl (lv_at hl 1 rfl) ?_
        refine g_put (k := 29) (x := v1) (ty := .int) hE hG (kd_lt km0 (by decide)) (ce_10 km0) (by rw [ce_10 km0]; rfl) rfl (by decide +kernel) tyX10 tyX10_ok nmX10 (by decide) (by decide +kernel) rfl rfl (by decide +kernel) rfl rfl (Nat.le_of_ble_eq_true rfl) dX10_glass_34 (fun σ8 H locs eσ8 hG => ?_)
        have hw := hw σ8 eσ8
        refine lv_aload_n hx hb dX10_glass_37 rfl (lv_at hl 0 rfl) ?_
        refine lv_iload_n hx hb dX10_glass_38 rfl (lv_at hl 2 rfl) ?_
        refine g_put (k := 30) (x := v2) (ty := .int) hE hG (kd_lt km0 (by decide)) (ce_10 km0) (by rw [ce_10 km0]; rfl) rfl (by decide +kernel) tyX10 tyX10_ok nmX10 (by decide) (by decide +kernel) rfl rfl (by decide +kernel) rfl rfl (Nat.le_of_ble_eq_true rfl) dX10_glass_39 (fun σ9 H locs eσ9 hG => ?_)
        have hw := hw σ9 eσ9
        refine lv_iconst (v := 1) hx hb dX10_glass_42 (by decide) ?_
        exact g_iret hE hG hr hlk dX10_glass_43 hw
      · have hw := hw.2 hc7
        refine lv_bipush (v := (-3)) hx hb dX10_glass_29 (by decide) ?_
        exact g_iret hE hG hr hlk dX10_glass_31 hw
    · have hw := hw.2 hc6
      refine lv_iconst (v := (-1)) hx hb dX10_glass_19 (by decide) ?_
      exact g_iret hE hG hr hlk dX10_glass_20 hw

