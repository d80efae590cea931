/-! contracts, by program -/
set_option maxHeartbeats 4000000 in
set_option maxRecDepth 100000 in
theorem m_X9_law (l : Launch) (X : wX) {Q : Int32 → St → Prop} {v1 : Int32} {v2 : Int32} {v3 : Int32} {v4 : Int32} {σ : St} (hw : wp_X9_law Q v1 v2 v3 v4 σ) : mI X kcL l yX9_law wsX9_law rm_X9_law [.ref (X.2.1 0), .int v1, .int v2, .int v3, .int v4] σ Q := by
  refine mI.of (cc := cX9_law) (maxL := 6) (ret := (some .int)) (by decide +kernel) rfl (Nat.le_of_ble_eq_true rfl) ?_
  intro A p e s m args below meth c ls hE hr hlk hl hG
  have hx := hE.1.1
  have hb := hE.1.2.1
  unfold wp_X9_law at hw
  have hl : lv_has ls 6 [(0, .ref (X.2.1 0)), (1, .int v1), (2, .int v2), (3, .int v3), (4, .int v4)] := hl
  refine lv_iload_n hx hb dX9_law_0 rfl (lv_at hl 1 rfl) ?_
  refine lv_iload_n hx hb dX9_law_1 rfl (lv_at hl 2 rfl) ?_
  refine lv_iload_n hx hb dX9_law_2 rfl (lv_at hl 3 rfl) ?_
  refine lv_iload hx hb dX9_law_3 (lv_at hl 4 rfl) ?_
  refine g_calli hG (g_runS (rm := rm_X9_isLaw) (As := [.int v1, .int v2, .int v3, .int v4]) (rest := []) (n := 4) hE hG (m_X9_isLaw l X hw _) gX9_law_X9_isLaw rfl rfl rfl (by decide +kernel) ⟨Nat.le_of_ble_eq_true rfl, Nat.le_of_ble_eq_true rfl⟩ rfl hl.1 (Nat.le_of_ble_eq_true rfl) dX9_law_5 ⟨Nat.zero_le _, Nat.zero_le _⟩) (fun r1 σ2 H locs hw hG => ?_)
  refine lv_if_ne (tgt := 13) hx hb dX9_law_8 (by decide) (fun hc3 => ?_) (fun hc3 => ?_)
  · have hw := hw.1 hc3
    refine lv_aload_n hx hb dX9_law_13 rfl (lv_at hl 0 rfl) ?_
    refine g_get (k := 0) hE hG (kd_lt kc0 (by decide)) (ce_9 kc0) rfl (by decide +kernel) (by decide) (by decide +kernel) rfl rfl dX9_law_14 ?_
    refine g_get (k := 3) hE hG (kd_lt kc1 (by decide)) (ce_3 kc1) rfl (by decide +kernel) (by decide) (by decide +kernel) rfl rfl dX9_law_17 ?_
    refine lv_bipush (v := (16)) hx hb dX9_law_20 (by decide) ?_
    refine lv_icmp_lt (tgt := 28) hx hb dX9_law_22 (by decide) (fun hc4 => ?_) (fun hc4 => ?_)
    · have hw := hw.1 hc4
      refine lv_aload_n hx hb dX9_law_28 rfl (lv_at hl 0 rfl) ?_
      refine g_get (k := 0) hE hG (kd_lt kc0 (by decide)) (ce_9 kc0) rfl (by decide +kernel) (by decide) (by decide +kernel) rfl rfl dX9_law_29 ?_
      refine g_get (k := 3) hE hG (kd_lt kc1 (by decide)) (ce_3 kc1) rfl (by decide +kernel) (by decide) (by decide +kernel) rfl rfl dX9_law_32 ?_
      refine lv_topi (fun x5 ex5 => ?_)
      have hw := hw x5 ex5
      refine lv_istore (lv' := [(5, .int x5), (0, .ref (X.2.1 0)), (1, .int v1), (2, .int v2), (3, .int v3), (4, .int v4)]) hx hb dX9_law_35 hl (by decide) rfl (fun ls hl => ?_)
      refine lv_aload_n hx hb dX9_law_37 rfl (lv_at hl 1 rfl) ?_
      refine g_get (k := 0) hE hG (kd_lt kc0 (by decide)) (ce_9 kc0) rfl (by decide +kernel) (by decide) (by decide +kernel) rfl rfl dX9_law_38 ?_
      refine g_get (k := 1) hE hG (kd_lt kc1 (by decide)) (ce_3 kc1) rfl (by decide +kernel) (by decide) (by decide +kernel) rfl rfl dX9_law_41 ?_
      refine lv_iload hx hb dX9_law_44 (lv_at hl 0 rfl) ?_
      obtain ⟨hi6, hw⟩ := hw
      refine g_aald (q := (25 + x5.toNatClampNeg)) (t0 := 3) hE hG (kd_lt kc3 (by decide)) (ce_301 kc3) rfl hi6 rfl dX9_law_46 ?_
      refine lv_iload_n hx hb dX9_law_47 rfl (lv_at hl 2 rfl) ?_
      refine lv_iload_n hx hb dX9_law_48 rfl (lv_at hl 3 rfl) ?_
      refine lv_iload_n hx hb dX9_law_49 rfl (lv_at hl 4 rfl) ?_
      refine lv_iload hx hb dX9_law_50 (lv_at hl 5 rfl) ?_
      refine g_callv hG (g_runV (rm := rm_X8_become) (As := [.int v1, .int v2, .int v3, .int v4]) (rest := []) (n := 4) hE hG (m_X8_become l X (kc_laws hi6) hw _) gX9_law_X8_become rfl rfl rfl (by decide +kernel) ⟨Nat.le_of_ble_eq_true rfl, Nat.le_of_ble_eq_true rfl⟩ (kd_lt (kc_laws hi6) (by decide)) (ce_8 (kc_laws hi6)) rfl rfl rfl hl.1 (Nat.le_of_ble_eq_true rfl) dX9_law_52 ⟨Nat.zero_le _, Nat.zero_le _⟩) (fun σ8 H locs hw hG => ?_)
      refine lv_aload_n hx hb dX9_law_55 rfl (lv_at hl 1 rfl) ?_
      refine g_get (k := 0) hE hG (kd_lt kc0 (by decide)) (ce_9 kc0) rfl (by decide +kernel) (by decide) (by decide +kernel) rfl rfl dX9_law_56 ?_
      refine lv_iload hx hb dX9_law_59 (lv_at hl 0 rfl) ?_
      refine lv_aload_n hx hb dX9_law_61 rfl (lv_at hl 1 rfl) ?_
      refine g_get (k := 0) hE hG (kd_lt kc0 (by decide)) (ce_9 kc0) rfl (by decide +kernel) (by decide) (by decide +kernel) rfl rfl dX9_law_62 ?_
      refine g_get (k := 4) hE hG (kd_lt kc1 (by decide)) (ce_3 kc1) rfl (by decide +kernel) (by decide) (by decide +kernel) rfl rfl dX9_law_65 ?_
      refine g_calli hG (g_runV (rm := rm_X3_anyBreaks) (As := [.int x5, .int (σ8 1 4)]) (rest := []) (n := 2) hE hG (m_X3_anyBreaks l X hw _) gX9_law_X3_anyBreaks rfl rfl rfl (by decide +kernel) ⟨Nat.le_of_ble_eq_true rfl, Nat.le_of_ble_eq_true rfl⟩ (kd_lt kc1 (by decide)) (ce_3 kc1) rfl rfl rfl hl.1 (Nat.le_of_ble_eq_true rfl) dX9_law_68 ⟨Nat.zero_le _, Nat.zero_le _⟩) (fun r9 σ10 H locs hw hG => ?_)
      refine lv_if_eq (tgt := 80) hx hb dX9_law_71 (by decide) (fun hc11 => ?_) (fun hc11 => ?_)
      · have hw := hw.1 hc11
        refine lv_aload_n hx hb dX9_law_80 rfl (lv_at hl 1 rfl) ?_
        refine g_get (k := 0) hE hG (kd_lt kc0 (by decide)) (ce_9 kc0) rfl (by decide +kernel) (by decide) (by decide +kernel) rfl rfl dX9_law_81 ?_
        refine lv_iload hx hb dX9_law_84 (lv_at hl 0 rfl) ?_
        refine lv_iconst (v := 1) hx hb dX9_law_86 (by decide) ?_
        refine lv_iadd hx hb dX9_law_87 ?_
        refine g_put (k := 3) (x := (x5 + (1 : Int32))) (ty := .int) hE hG (kd_lt kc1 (by decide)) (ce_3 kc1) (by rw [ce_3 kc1]; rfl) rfl (by decide +kernel) tyX3 tyX3_ok nmX3 (by decide) (by decide +kernel) rfl rfl (by decide +kernel) rfl rfl (Nat.le_of_ble_eq_true rfl) dX9_law_88 (fun σ12 H locs eσ12 hG => ?_)
        have hw := hw σ12 eσ12
        refine lv_iload hx hb dX9_law_91 (lv_at hl 0 rfl) ?_
        exact g_iret hE hG hr hlk dX9_law_93 hw
      · have hw := hw.2 hc11
        refine lv_bipush (v := (-100)) hx hb dX9_law_74 (by decide) ?_
        refine lv_iload hx hb dX9_law_76 (lv_at hl 0 rfl) ?_
        refine lv_isub hx hb dX9_law_78 ?_
        exact g_iret hE hG hr hlk dX9_law_79 hw
    · have hw := hw.2 hc4
      refine lv_bipush (v := (-2)) hx hb dX9_law_25 (by decide) ?_
      exact g_iret hE hG hr hlk dX9_law_27 hw
  · have hw := hw.2 hc3
    refine lv_iconst (v := (-1)) hx hb dX9_law_11 (by decide) ?_
    exact g_iret hE hG hr hlk dX9_law_12 hw

set_option maxHeartbeats 4000000 in
set_option maxRecDepth 100000 in
theorem m_X9_repeal (l : Launch) (X : wX) {Q : Int32 → St → Prop} {σ : St} (hw : wp_X9_repeal Q σ) : mI X kcL l yX9_repeal wsX9_repeal rm_X9_repeal [.ref (X.2.1 0)] σ Q := by
  refine mI.of (cc := cX9_repeal) (maxL := 1) (ret := (some .int)) (by decide +kernel) rfl (Nat.le_of_ble_eq_true rfl) ?_
  intro A p e s m args below meth c ls hE hr hlk hl hG
  have hx := hE.1.1
  have hb := hE.1.2.1
  unfold wp_X9_repeal at hw
  have hl : lv_has ls 1 [(0, .ref (X.2.1 0))] := hl
  refine lv_aload_n hx hb dX9_repeal_0 rfl (lv_at hl 0 rfl) ?_
  refine g_get (k := 0) hE hG (kd_lt kc0 (by decide)) (ce_9 kc0) rfl (by decide +kernel) (by decide) (by decide +kernel) rfl rfl dX9_repeal_1 ?_
  refine g_get (k := 3) hE hG (kd_lt kc1 (by decide)) (ce_3 kc1) rfl (by decide +kernel) (by decide) (by decide +kernel) rfl rfl dX9_repeal_4 ?_
  refine lv_if_ne (tgt := 13) hx hb dX9_repeal_7 (by decide) (fun hc1 => ?_) (fun hc1 => ?_)
  · have hw := hw.1 hc1
    refine lv_aload_n hx hb dX9_repeal_13 rfl (lv_at hl 0 rfl) ?_
    refine g_get (k := 0) hE hG (kd_lt kc0 (by decide)) (ce_9 kc0) rfl (by decide +kernel) (by decide) (by decide +kernel) rfl rfl dX9_repeal_14 ?_
    refine lv_dup hx hb dX9_repeal_17 rfl ?_
    refine g_get (k := 3) hE hG (kd_lt kc1 (by decide)) (ce_3 kc1) rfl (by decide +kernel) (by decide) (by decide +kernel) rfl rfl dX9_repeal_18 ?_
    refine lv_iconst (v := 1) hx hb dX9_repeal_21 (by decide) ?_
    refine lv_isub hx hb dX9_repeal_22 ?_
    refine g_put (k := 3) (x := ((σ 1 3) - (1 : Int32))) (ty := .int) hE hG (kd_lt kc1 (by decide)) (ce_3 kc1) (by rw [ce_3 kc1]; rfl) rfl (by decide +kernel) tyX3 tyX3_ok nmX3 (by decide) (by decide +kernel) rfl rfl (by decide +kernel) rfl rfl (Nat.le_of_ble_eq_true rfl) dX9_repeal_23 (fun σ2 H locs eσ2 hG => ?_)
    have hw := hw σ2 eσ2
    refine lv_aload_n hx hb dX9_repeal_26 rfl (lv_at hl 0 rfl) ?_
    refine g_get (k := 0) hE hG (kd_lt kc0 (by decide)) (ce_9 kc0) rfl (by decide +kernel) (by decide) (by decide +kernel) rfl rfl dX9_repeal_27 ?_
    refine g_get (k := 3) hE hG (kd_lt kc1 (by decide)) (ce_3 kc1) rfl (by decide +kernel) (by decide) (by decide +kernel) rfl rfl dX9_repeal_30 ?_
    exact g_iret hE hG hr hlk dX9_repeal_33 hw
  · have hw := hw.2 hc1
    refine lv_bipush (v := (-4)) hx hb dX9_repeal_10 (by decide) ?_
    exact g_iret hE hG hr hlk dX9_repeal_12 hw

set_option maxHeartbeats 4000000 in
set_option maxRecDepth 100000 in
theorem m_X9_pace (l : Launch) (X : wX) {Q : Int32 → St → Prop} {v1 : Int32} {σ : St} (hw : wp_X9_pace Q v1 σ) : mI X kcL l yX9_pace wsX9_pace rm_X9_pace [.ref (X.2.1 0), .int v1] σ Q := by
  refine mI.of (cc := cX9_pace) (maxL := 4) (ret := (some .int)) (by decide +kernel) rfl (Nat.le_of_ble_eq_true rfl) ?_
  intro A p e s m args below meth c ls hE hr hlk hl hG
  have hx := hE.1.1
  have hb := hE.1.2.1
  unfold wp_X9_pace at hw
  have hl : lv_has ls 4 [(0, .ref (X.2.1 0)), (1, .int v1)] := hl
  refine lv_iload_n hx hb dX9_pace_0 rfl (lv_at hl 1 rfl) ?_
  refine lv_iconst (v := 1) hx hb dX9_pace_1 (by decide) ?_
  refine lv_bipush (v := (60)) hx hb dX9_pace_2 (by decide) ?_
  refine g_calli hG (g_runS (rm := rm_X9_isBetween) (As := [.int v1, .int (1 : Int32), .int (60 : Int32)]) (rest := []) (n := 3) hE hG (m_X9_isBetween l X hw _) gX9_pace_X9_isBetween rfl rfl rfl (by decide +kernel) ⟨Nat.le_of_ble_eq_true rfl, Nat.le_of_ble_eq_true rfl⟩ rfl hl.1 (Nat.le_of_ble_eq_true rfl) dX9_pace_4 ⟨Nat.zero_le _, Nat.zero_le _⟩) (fun r1 σ2 H locs hw hG => ?_)
  refine lv_if_ne (tgt := 12) hx hb dX9_pace_7 (by decide) (fun hc3 => ?_) (fun hc3 => ?_)
  · have hw := hw.1 hc3
    refine lv_aload_n hx hb dX9_pace_12 rfl (lv_at hl 0 rfl) ?_
    refine g_get (k := 0) hE hG (kd_lt kc0 (by decide)) (ce_9 kc0) rfl (by decide +kernel) (by decide) (by decide +kernel) rfl rfl dX9_pace_13 ?_
    refine lv_iload_n hx hb dX9_pace_16 rfl (lv_at hl 1 rfl) ?_
    refine g_calli hG (g_runV (rm := rm_X3_brokenAt) (As := [.int v1]) (rest := []) (n := 1) hE hG (m_X3_brokenAt l X hw _) gX9_pace_X3_brokenAt rfl rfl rfl (by decide +kernel) ⟨Nat.le_of_ble_eq_true rfl, Nat.le_of_ble_eq_true rfl⟩ (kd_lt kc1 (by decide)) (ce_3 kc1) rfl rfl rfl hl.1 (Nat.le_of_ble_eq_true rfl) dX9_pace_17 ⟨Nat.zero_le _, Nat.zero_le _⟩) (fun r4 σ5 H locs hw hG => ?_)
    refine lv_istore_n (lv' := [(2, .int r4), (0, .ref (X.2.1 0)), (1, .int v1)]) hx hb dX9_pace_20 rfl hl (by decide) rfl (fun ls hl => ?_)
    refine lv_iload_n hx hb dX9_pace_21 rfl (lv_at hl 0 rfl) ?_
    refine lv_iconst (v := (-1)) hx hb dX9_pace_22 (by decide) ?_
    refine lv_icmp_eq (tgt := 31) hx hb dX9_pace_23 (by decide) (fun hc6 => ?_) (fun hc6 => ?_)
    · have hw := hw.1 hc6
      refine lv_aload_n hx hb dX9_pace_31 rfl (lv_at hl 1 rfl) ?_
      refine g_get (k := 0) hE hG (kd_lt kc0 (by decide)) (ce_9 kc0) rfl (by decide +kernel) (by decide) (by decide +kernel) rfl rfl dX9_pace_32 ?_
      refine g_get (k := 4) hE hG (kd_lt kc1 (by decide)) (ce_3 kc1) rfl (by decide +kernel) (by decide) (by decide +kernel) rfl rfl dX9_pace_35 ?_
      refine lv_topi (fun x7 ex7 => ?_)
      have hw := hw x7 ex7
      refine lv_istore_n (lv' := [(3, .int x7), (2, .int r4), (0, .ref (X.2.1 0)), (1, .int v1)]) hx hb dX9_pace_38 rfl hl (by decide) rfl (fun ls hl => ?_)
      refine lv_aload_n hx hb dX9_pace_39 rfl (lv_at hl 2 rfl) ?_
      refine g_get (k := 0) hE hG (kd_lt kc0 (by decide)) (ce_9 kc0) rfl (by decide +kernel) (by decide) (by decide +kernel) rfl rfl dX9_pace_40 ?_
      refine lv_iload_n hx hb dX9_pace_43 rfl (lv_at hl 3 rfl) ?_
      refine g_put (k := 4) (x := v1) (ty := .int) hE hG (kd_lt kc1 (by decide)) (ce_3 kc1) (by rw [ce_3 kc1]; rfl) rfl (by decide +kernel) tyX3 tyX3_ok nmX3 (by decide) (by decide +kernel) rfl rfl (by decide +kernel) rfl rfl (Nat.le_of_ble_eq_true rfl) dX9_pace_44 (fun σ8 H locs eσ8 hG => ?_)
      have hw := hw σ8 eσ8
      refine lv_iload_n hx hb dX9_pace_47 rfl (lv_at hl 0 rfl) ?_
      exact g_iret hE hG hr hlk dX9_pace_48 hw
    · have hw := hw.2 hc6
      refine lv_bipush (v := (-100)) hx hb dX9_pace_26 (by decide) ?_
      refine lv_iload_n hx hb dX9_pace_28 rfl (lv_at hl 0 rfl) ?_
      refine lv_isub hx hb dX9_pace_29 ?_
      exact g_iret hE hG hr hlk dX9_pace_30 hw
  · have hw := hw.2 hc3
    refine lv_iconst (v := (-1)) hx hb dX9_pace_10 (by decide) ?_
    exact g_iret hE hG hr hlk dX9_pace_11 hw

set_option maxHeartbeats 4000000 in
set_option maxRecDepth 100000 in
theorem m_X9_fastest (l : Launch) (X : wX) {Q : Int32 → St → Prop} {σ : St} (hw : wp_X9_fastest Q σ) : mI X kcL l yX9_fastest wsX9_fastest rm_X9_fastest [.ref (X.2.1 0)] σ Q := by
  refine mI.of (cc := cX9_fastest) (maxL := 1) (ret := (some .int)) (by decide +kernel) rfl (Nat.le_of_ble_eq_true rfl) ?_
  intro A p e s m args below meth c ls hE hr hlk hl hG
  have hx := hE.1.1
  have hb := hE.1.2.1
  unfold wp_X9_fastest at hw
  have hl : lv_has ls 1 [(0, .ref (X.2.1 0))] := hl
  refine lv_aload_n hx hb dX9_fastest_0 rfl (lv_at hl 0 rfl) ?_
  refine g_get (k := 0) hE hG (kd_lt kc0 (by decide)) (ce_9 kc0) rfl (by decide +kernel) (by decide) (by decide +kernel) rfl rfl dX9_fastest_1 ?_
  refine g_calli hG (g_runV (rm := rm_X3_greatestPace) (As := []) (rest := []) (n := 0) hE hG (m_X3_greatestPace l X hw _) gX9_fastest_X3_greatestPace rfl rfl rfl (by decide +kernel) ⟨Nat.le_of_ble_eq_true rfl, Nat.le_of_ble_eq_true rfl⟩ (kd_lt kc1 (by decide)) (ce_3 kc1) rfl rfl rfl hl.1 (Nat.le_of_ble_eq_true rfl) dX9_fastest_4 ⟨Nat.zero_le _, Nat.zero_le _⟩) (fun r1 σ2 H locs hw hG => ?_)
  exact g_iret hE hG hr hlk dX9_fastest_7 hw

set_option maxHeartbeats 4000000 in
set_option maxRecDepth 100000 in
theorem m_X9_asNumber (l : Launch) (X : wX) {Q : Int32 → St → Prop} {v0 : Int32} {σ : St} (hw : wp_X9_asNumber Q v0 σ) : mI X kcL l yX9_asNumber wsX9_asNumber rm_X9_asNumber [.int v0] σ Q := by
  refine mI.of (cc := cX9_asNumber) (maxL := 1) (ret := (some .int)) (by decide +kernel) rfl (Nat.le_of_ble_eq_true rfl) ?_
  intro A p e s m args below meth c ls hE hr hlk hl hG
  have hx := hE.1.1
  have hb := hE.1.2.1
  unfold wp_X9_asNumber at hw
  have hl : lv_has ls 1 [(0, .int v0)] := hl
  refine lv_iload_n hx hb dX9_asNumber_0 rfl (lv_at hl 0 rfl) ?_
  refine lv_if_eq (tgt := 8) hx hb dX9_asNumber_1 (by decide) (fun hc1 => ?_) (fun hc1 => ?_)
  · have hw := hw.1 hc1
    refine lv_iconst (v := 0) hx hb dX9_asNumber_8 (by decide) ?_
    exact g_iret hE hG hr hlk dX9_asNumber_9 hw
  · have hw := hw.2 hc1
    refine lv_iconst (v := 1) hx hb dX9_asNumber_4 (by decide) ?_
    refine lv_goto (tgt := 9) hx hb dX9_asNumber_5 (by decide) ?_
    exact g_iret hE hG hr hlk dX9_asNumber_9 hw

set_option maxHeartbeats 4000000 in
set_option maxRecDepth 100000 in
theorem m_X9_act (l : Launch) (X : wX) {Q : Int32 → St → Prop} {v1 : Int32} {v2 : Int32} {v3 : Int32} {v4 : Int32} {σ : St} (hw : wp_X9_act Q v1 v2 v3 v4 σ) : mI X kcL l yX9_act wsX9_act rm_X9_act [.ref (X.2.1 0), .int v1, .int v2, .int v3, .int v4] σ Q := by
  refine mI.of (cc := cX9_act) (maxL := 6) (ret := (some .int)) (by decide +kernel) rfl (Nat.le_of_ble_eq_true rfl) ?_
  intro A p e s m args below meth c ls hE hr hlk hl hG
  have hx := hE.1.1
  have hb := hE.1.2.1
  unfold wp_X9_act at hw
  have hl : lv_has ls 6 [(0, .ref (X.2.1 0)), (1, .int v1), (2, .int v2), (3, .int v3), (4, .int v4)] := hl
  refine lv_iload_n hx hb dX9_act_0 rfl (lv_at hl 1 rfl) ?_
  refine g_calli hG (g_runS (rm := rm_X9_isSection) (As := [.int v1]) (rest := []) (n := 1) hE hG (m_X9_isSection l X hw _) gX9_act_X9_isSection rfl rfl rfl (by decide +kernel) ⟨Nat.le_of_ble_eq_true rfl, Nat.le_of_ble_eq_true rfl⟩ rfl hl.1 (Nat.le_of_ble_eq_true rfl) dX9_act_1 ⟨Nat.zero_le _, Nat.zero_le _⟩) (fun r1 σ2 H locs hw hG => ?_)
  refine lv_if_eq (tgt := 14) hx hb dX9_act_4 (by decide) (fun hc3 => ?_) (fun hc3 => ?_)
  · have hw := hw.1 hc3
    refine lv_iconst (v := (-1)) hx hb dX9_act_14 (by decide) ?_
    exact g_iret hE hG hr hlk dX9_act_15 hw
  · have hw := hw.2 hc3
    refine lv_iload_n hx hb dX9_act_7 rfl (lv_at hl 2 rfl) ?_
    refine g_calli hG (g_runS (rm := rm_X9_isAct) (As := [.int v2]) (rest := []) (n := 1) hE hG (m_X9_isAct l X hw _) gX9_act_X9_isAct rfl rfl rfl (by decide +kernel) ⟨Nat.le_of_ble_eq_true rfl, Nat.le_of_ble_eq_true rfl⟩ rfl hl.1 (Nat.le_of_ble_eq_true rfl) dX9_act_8 ⟨Nat.zero_le _, Nat.zero_le _⟩) (fun r4 σ5 H locs hw hG => ?_)
    refine lv_if_ne (tgt := 16) hx hb dX9_act_11 (by decide) (fun hc6 => ?_) (fun hc6 => ?_)
    · have hw := hw.1 hc6
      refine lv_aload_n hx hb dX9_act_16 rfl (lv_at hl 0 rfl) ?_
      refine g_get (k := 0) hE hG (kd_lt kc0 (by decide)) (ce_9 kc0) rfl (by decide +kernel) (by decide) (by decide +kernel) rfl rfl dX9_act_17 ?_
      refine g_get (k := 0) hE hG (kd_lt kc1 (by decide)) (ce_3 kc1) rfl (by decide +kernel) (by decide) (by decide +kernel) rfl rfl dX9_act_20 ?_
      refine lv_iload_n hx hb dX9_act_23 rfl (lv_at hl 1 rfl) ?_
      obtain ⟨hi7, hw⟩ := hw
      refine g_aald (q := (4 + 3 * v1.toNatClampNeg)) (t0 := 2) hE hG (kd_lt kc2 (by decide)) (ce_300 kc2) rfl hi7 rfl dX9_act_24 ?_
      refine lv_astore (lv' := [(5, .ref (X.2.1 (4 + 3 * v1.toNatClampNeg))), (0, .ref (X.2.1 0)), (1, .int v1), (2, .int v2), (3, .int v3), (4, .int v4)]) hx hb dX9_act_25 hl (by decide) rfl (fun ls hl => ?_)
      refine lv_iload_n hx hb dX9_act_27 rfl (lv_at hl 4 rfl) ?_
      by_cases hs9 : v3 = (0 : Int32)
      · refine lv_tableIn (tgt := 60) hx hb dX9_act_28 (by rw [hs9]; decide) (by rw [hs9]; decide) (by rw [hs9]; rfl) (by decide) ?_
        have hw := hw.1 hs9
        refine lv_aload hx hb dX9_act_60 (lv_at hl 0 rfl) ?_
        refine g_get (k := 0) hE hG (kd_lt (kc_rows hi7) (by decide)) (ce_2 (kc_rows hi7)) rfl (by decide +kernel) (by decide) (by decide +kernel) rfl rfl dX9_act_62 ?_
        refine lv_iload_n hx hb dX9_act_65 rfl (lv_at hl 3 rfl) ?_
        obtain ⟨hi8, hw⟩ := hw
        refine g_iald (n := 8) hE hG (kd_lt (kc_on (kc_rows hi7)) (by decide)) (ce_int (kc_on (kc_rows hi7)) (by decide) (by decide)) hi8 dX9_act_66 ?_
        exact g_iret hE hG hr hlk dX9_act_67 hw
      · skip
        by_cases hs11 : v3 = (1 : Int32)
        · refine lv_tableIn (tgt := 68) hx hb dX9_act_28 (by rw [hs11]; decide) (by rw [hs11]; decide) (by rw [hs11]; rfl) (by decide) ?_
          have hw := hw.2.1 hs11
          refine lv_aload hx hb dX9_act_68 (lv_at hl 0 rfl) ?_
          refine g_get (k := 1) hE hG (kd_lt (kc_rows hi7) (by decide)) (ce_2 (kc_rows hi7)) rfl (by decide +kernel) (by decide) (by decide +kernel) rfl rfl dX9_act_70 ?_
          refine lv_iload_n hx hb dX9_act_73 rfl (lv_at hl 3 rfl) ?_
          obtain ⟨hi10, hw⟩ := hw
          refine g_iald (n := 8) hE hG (kd_lt (kc_off (kc_rows hi7)) (by decide)) (ce_int (kc_off (kc_rows hi7)) (by decide) (by decide)) hi10 dX9_act_74 ?_
          exact g_iret hE hG hr hlk dX9_act_75 hw
        · skip
          by_cases hs14 : v3 = (2 : Int32)
          · refine lv_tableIn (tgt := 76) hx hb dX9_act_28 (by rw [hs14]; decide) (by rw [hs14]; decide) (by rw [hs14]; rfl) (by decide) ?_
            have hw := hw.2.2.1 hs14
            refine lv_aload hx hb dX9_act_76 (lv_at hl 0 rfl) ?_
            refine lv_iload_n hx hb dX9_act_78 rfl (lv_at hl 3 rfl) ?_
            refine g_calli hG (g_runV (rm := rm_X2_length) (As := [.int v2]) (rest := []) (n := 1) hE hG (m_X2_length l X (kc_rows hi7) hw _) gX9_act_X2_length rfl rfl rfl (by decide +kernel) ⟨Nat.le_of_ble_eq_true rfl, Nat.le_of_ble_eq_true rfl⟩ (kd_lt (kc_rows hi7) (by decide)) (ce_2 (kc_rows hi7)) rfl rfl rfl hl.1 (Nat.le_of_ble_eq_true rfl) dX9_act_79 ⟨Nat.zero_le _, Nat.zero_le _⟩) (fun r12 σ13 H locs hw hG => ?_)
            exact g_iret hE hG hr hlk dX9_act_82 hw
          · skip
            by_cases hs22 : v3 = (3 : Int32)
            · refine lv_tableIn (tgt := 83) hx hb dX9_act_28 (by rw [hs22]; decide) (by rw [hs22]; decide) (by rw [hs22]; rfl) (by decide) ?_
              have hw := hw.2.2.2.1 hs22
              refine lv_iload hx hb dX9_act_83 (lv_at hl 5 rfl) ?_
              refine g_calli hG (g_runS (rm := rm_X9_isDegree) (As := [.int v4]) (rest := []) (n := 1) hE hG (m_X9_isDegree l X hw _) gX9_act_X9_isDegree rfl rfl rfl (by decide +kernel) ⟨Nat.le_of_ble_eq_true rfl, Nat.le_of_ble_eq_true rfl⟩ rfl hl.1 (Nat.le_of_ble_eq_true rfl) dX9_act_85 ⟨Nat.zero_le _, Nat.zero_le _⟩) (fun r15 σ16 H locs hw hG => ?_)
              refine lv_if_eq (tgt := 105) hx hb dX9_act_88 (by decide) (fun hc17 => ?_) (fun hc17 => ?_)
              · have hw := hw.1 hc17
                refine lv_iconst (v := (-1)) hx hb dX9_act_105 (by decide) ?_
                exact g_iret hE hG hr hlk dX9_act_106 hw
              · have hw := hw.2 hc17
                refine lv_aload hx hb dX9_act_91 (lv_at hl 0 rfl) ?_
                refine lv_iload_n hx hb dX9_act_93 rfl (lv_at hl 3 rfl) ?_
                refine lv_iload hx hb dX9_act_94 (lv_at hl 5 rfl) ?_
                refine g_calli hG (g_runV (rm := rm_X2_isDone) (As := [.int v2, .int v4]) (rest := []) (n := 2) hE hG (m_X2_isDone l X (kc_rows hi7) hw _) gX9_act_X2_isDone rfl rfl rfl (by decide +kernel) ⟨Nat.le_of_ble_eq_true rfl, Nat.le_of_ble_eq_true rfl⟩ (kd_lt (kc_rows hi7) (by decide)) (ce_2 (kc_rows hi7)) rfl rfl rfl hl.1 (Nat.le_of_ble_eq_true rfl) dX9_act_96 ⟨Nat.zero_le _, Nat.zero_le _⟩) (fun r18 σ19 H locs hw hG => ?_)
                refine g_calli hG (g_runS (rm := rm_X9_asNumber) (As := [.int r18]) (rest := []) (n := 1) hE hG (m_X9_asNumber l X hw _) gX9_act_X9_asNumber rfl rfl rfl (by decide +kernel) ⟨Nat.le_of_ble_eq_true rfl, Nat.le_of_ble_eq_true rfl⟩ rfl hl.1 (Nat.le_of_ble_eq_true rfl) dX9_act_99 ⟨Nat.zero_le _, Nat.zero_le _⟩) (fun r20 σ21 H locs hw hG => ?_)
                refine lv_goto (tgt := 106) hx hb dX9_act_102 (by decide) ?_
                exact g_iret hE hG hr hlk dX9_act_106 hw
            · skip
              have hw := hw.2.2.2.2 hs9 hs11 hs14 hs22
              have q0 := lv_neT hs9 (a := 0) (by decide)
              have q1 := lv_neT hs11 (a := 1) (by decide)
              have q2 := lv_neT hs14 (a := 2) (by decide)
              have q3 := lv_neT hs22 (a := 3) (by decide)
              refine lv_tableOut (tgt := 107) hx hb dX9_act_28 (by omega) (by decide) ?_
              refine lv_iconst (v := (-1)) hx hb dX9_act_107 (by decide) ?_
              exact g_iret hE hG hr hlk dX9_act_108 hw
    · have hw := hw.2 hc6
      refine lv_iconst (v := (-1)) hx hb dX9_act_14 (by decide) ?_
      exact g_iret hE hG hr hlk dX9_act_15 hw

set_option maxHeartbeats 4000000 in
set_option maxRecDepth 100000 in
theorem m_X9_would (l : Launch) (X : wX) {Q : Int32 → St → Prop} {v1 : Int32} {v2 : Int32} {v3 : Int32} {v4 : Int32} {σ : St} (hw : wp_X9_would Q v1 v2 v3 v4 σ) : mI X kcL l yX9_would wsX9_would rm_X9_would [.ref (X.2.1 0), .int v1, .int v2, .int v3, .int v4] σ Q := by
  refine mI.of (cc := cX9_would) (maxL := 6) (ret := (some .int)) (by decide +kernel) rfl (Nat.le_of_ble_eq_true rfl) ?_
  intro A p e s m args below meth c ls hE hr hlk hl hG
  have hx := hE.1.1
  have hb := hE.1.2.1
  unfold wp_X9_would at hw
  have hl : lv_has ls 6 [(0, .ref (X.2.1 0)), (1, .int v1), (2, .int v2), (3, .int v3), (4, .int v4)] := hl
  refine lv_iload_n hx hb dX9_would_0 rfl (lv_at hl 1 rfl) ?_
  refine lv_iload_n hx hb dX9_would_1 rfl (lv_at hl 2 rfl) ?_
  refine lv_iload_n hx hb dX9_would_2 rfl (lv_at hl 3 rfl) ?_
  refine lv_iload hx hb dX9_would_3 (lv_at hl 4 rfl) ?_
  refine g_calli hG (g_runS (rm := rm_X9_isSetting) (As := [.int v1, .int v2, .int v3, .int v4]) (rest := []) (n := 4) hE hG (m_X9_isSetting l X hw _) gX9_would_X9_isSetting rfl rfl rfl (by decide +kernel) ⟨Nat.le_of_ble_eq_true rfl, Nat.le_of_ble_eq_true rfl⟩ rfl hl.1 (Nat.le_of_ble_eq_true rfl) dX9_would_5 ⟨Nat.zero_le _, Nat.zero_le _⟩) (fun r1 σ2 H locs hw hG => ?_)
  refine lv_if_ne (tgt := 13) hx hb dX9_would_8 (by decide) (fun hc3 => ?_) (fun hc3 => ?_)
  · have hw := hw.1 hc3
    refine lv_aload_n hx hb dX9_would_13 rfl (lv_at hl 0 rfl) ?_
    refine g_get (k := 0) hE hG (kd_lt kc0 (by decide)) (ce_9 kc0) rfl (by decide +kernel) (by decide) (by decide +kernel) rfl rfl dX9_would_14 ?_
    refine lv_iload_n hx hb dX9_would_17 rfl (lv_at hl 1 rfl) ?_
    refine lv_iload_n hx hb dX9_would_18 rfl (lv_at hl 2 rfl) ?_
    refine lv_iload_n hx hb dX9_would_19 rfl (lv_at hl 3 rfl) ?_
    refine lv_iload hx hb dX9_would_20 (lv_at hl 4 rfl) ?_
    refine g_calli hG (g_runV (rm := rm_X3_brokenIf) (As := [.int v1, .int v2, .int v3, .int v4]) (rest := []) (n := 4) hE hG (m_X3_brokenIf l X hw _) gX9_would_X3_brokenIf rfl rfl rfl (by decide +kernel) ⟨Nat.le_of_ble_eq_true rfl, Nat.le_of_ble_eq_true rfl⟩ (kd_lt kc1 (by decide)) (ce_3 kc1) rfl rfl rfl hl.1 (Nat.le_of_ble_eq_true rfl) dX9_would_22 ⟨Nat.zero_le _, Nat.zero_le _⟩) (fun r4 σ5 H locs hw hG => ?_)
    refine lv_istore (lv' := [(5, .int r4), (0, .ref (X.2.1 0)), (1, .int v1), (2, .int v2), (3, .int v3), (4, .int v4)]) hx hb dX9_would_25 hl (by decide) rfl (fun ls hl => ?_)
    refine lv_iload hx hb dX9_would_27 (lv_at hl 0 rfl) ?_
    refine lv_iconst (v := (-1)) hx hb dX9_would_29 (by decide) ?_
    refine lv_icmp_ne (tgt := 37) hx hb dX9_would_30 (by decide) (fun hc6 => ?_) (fun hc6 => ?_)
    · have hw := hw.1 hc6
      refine lv_iconst (v := 1) hx hb dX9_would_37 (by decide) ?_
      refine lv_iload hx hb dX9_would_38 (lv_at hl 0 rfl) ?_
      refine lv_iadd hx hb dX9_would_40 ?_
      exact g_iret hE hG hr hlk dX9_would_41 hw
    · have hw := hw.2 hc6
      refine lv_iconst (v := 0) hx hb dX9_would_33 (by decide) ?_
      refine lv_goto (tgt := 41) hx hb dX9_would_34 (by decide) ?_
      exact g_iret hE hG hr hlk dX9_would_41 hw
  · have hw := hw.2 hc3
    refine lv_iconst (v := (-1)) hx hb dX9_would_11 (by decide) ?_
    exact g_iret hE hG hr hlk dX9_would_12 hw

set_option maxHeartbeats 4000000 in
set_option maxRecDepth 100000 in
theorem m_X9_isArm (l : Launch) (X : wX) {Q : Int32 → St → Prop} {v0 : Int32} {σ : St} (hw : wp_X9_isArm Q v0 σ) : mI X kcL l yX9_isArm wsX9_isArm rm_X9_isArm [.int v0] σ Q := by
  refine mI.of (cc := cX9_isArm) (maxL := 1) (ret := (some .boolean)) (by decide +kernel) rfl (Nat.le_of_ble_eq_true rfl) ?_
  intro A p e s m args below meth c ls hE hr hlk hl hG
  have hx := hE.1.1
  have hb := hE.1.2.1
  unfold wp_X9_isArm at hw
  have hl : lv_has ls 1 [(0, .int v0)] := hl
  refine lv_iload_n hx hb dX9_isArm_0 rfl (lv_at hl 0 rfl) ?_
  refine lv_iconst (v := 0) hx hb dX9_isArm_1 (by decide) ?_
  refine lv_iconst (v := 2) hx hb dX9_isArm_2 (by decide) ?_
  refine g_calli hG (g_runS (rm := rm_X9_isBetween) (As := [.int v0, .int (0 : Int32), .int (2 : Int32)]) (rest := []) (n := 3) hE hG (m_X9_isBetween l X hw _) gX9_isArm_X9_isBetween rfl rfl rfl (by decide +kernel) ⟨Nat.le_of_ble_eq_true rfl, Nat.le_of_ble_eq_true rfl⟩ rfl hl.1 (Nat.le_of_ble_eq_true rfl) dX9_isArm_3 ⟨Nat.zero_le _, Nat.zero_le _⟩) (fun r1 σ2 H locs hw hG => ?_)
  exact g_zret hE hG hr hlk dX9_isArm_6 hw.1 hw.2

set_option maxHeartbeats 4000000 in
set_option maxRecDepth 100000 in
theorem m_X9_arm (l : Launch) (X : wX) {Q : Int32 → St → Prop} {v1 : Int32} {σ : St} (hw : wp_X9_arm Q v1 σ) : mI X kcL l yX9_arm wsX9_arm rm_X9_arm [.ref (X.2.1 0), .int v1] σ Q := by
  refine mI.of (cc := cX9_arm) (maxL := 3) (ret := (some .int)) (by decide +kernel) rfl (Nat.le_of_ble_eq_true rfl) ?_
  intro A p e s m args below meth c ls hE hr hlk hl hG
  have hx := hE.1.1
  have hb := hE.1.2.1
  unfold wp_X9_arm at hw
  have hl : lv_has ls 3 [(0, .ref (X.2.1 0)), (1, .int v1)] := hl
  refine lv_iload_n hx hb dX9_arm_0 rfl (lv_at hl 1 rfl) ?_
  refine g_calli hG (g_runS (rm := rm_X9_isArm) (As := [.int v1]) (rest := []) (n := 1) hE hG (m_X9_isArm l X hw _) gX9_arm_X9_isArm rfl rfl rfl (by decide +kernel) ⟨Nat.le_of_ble_eq_true rfl, Nat.le_of_ble_eq_true rfl⟩ rfl hl.1 (Nat.le_of_ble_eq_true rfl) dX9_arm_1 ⟨Nat.zero_le _, Nat.zero_le _⟩) (fun r1 σ2 H locs hw hG => ?_)
  refine lv_if_ne (tgt := 9) hx hb dX9_arm_4 (by decide) (fun hc3 => ?_) (fun hc3 => ?_)
  · have hw := hw.1 hc3
    refine lv_aload_n hx hb dX9_arm_9 rfl (lv_at hl 0 rfl) ?_
    refine g_get (k := 1) hE hG (kd_lt kc0 (by decide)) (ce_9 kc0) rfl (by decide +kernel) (by decide) (by decide +kernel) rfl rfl dX9_arm_10 ?_
    refine g_get (k := 1) hE hG (kd_lt kc41 (by decide)) (ce_7 kc41) rfl (by decide +kernel) (by decide) (by decide +kernel) rfl rfl dX9_arm_13 ?_
    obtain ⟨hk4, hw⟩ := hw
    refine g_get (k := 2) hE hG (kd_lt hk4 (by decide)) (ce_4 hk4) rfl (by decide +kernel) (by decide) (by decide +kernel) rfl rfl dX9_arm_16 ?_
    refine lv_topi (fun x5 ex5 => ?_)
    have hw := hw x5 ex5
    refine lv_istore_n (lv' := [(2, .int x5), (0, .ref (X.2.1 0)), (1, .int v1)]) hx hb dX9_arm_19 rfl hl (by decide) rfl (fun ls hl => ?_)
    refine lv_iload_n hx hb dX9_arm_20 rfl (lv_at hl 0 rfl) ?_
    refine lv_if_ne (tgt := 27) hx hb dX9_arm_21 (by decide) (fun hc6 => ?_) (fun hc6 => ?_)
    · have hw := hw.1 hc6
      refine lv_aload_n hx hb dX9_arm_27 rfl (lv_at hl 1 rfl) ?_
      refine g_get (k := 1) hE hG (kd_lt kc0 (by decide)) (ce_9 kc0) rfl (by decide +kernel) (by decide) (by decide +kernel) rfl rfl dX9_arm_28 ?_
      refine lv_iload_n hx hb dX9_arm_31 rfl (lv_at hl 2 rfl) ?_
      refine g_callv hG (g_runV (rm := rm_X7_swapWithTold) (As := [.int v1]) (rest := []) (n := 1) hE hG (m_X7_swapWithTold l X hw _) gX9_arm_X7_swapWithTold rfl rfl rfl (by decide +kernel) ⟨Nat.le_of_ble_eq_true rfl, Nat.le_of_ble_eq_true rfl⟩ (kd_lt kc41 (by decide)) (ce_7 kc41) rfl rfl rfl hl.1 (Nat.le_of_ble_eq_true rfl) dX9_arm_32 ⟨Nat.zero_le _, Nat.zero_le _⟩) (fun σ8 H locs hw hG => ?_)
      refine lv_aload_n hx hb dX9_arm_35 rfl (lv_at hl 1 rfl) ?_
      refine g_get (k := 1) hE hG (kd_lt kc0 (by decide)) (ce_9 kc0) rfl (by decide +kernel) (by decide) (by decide +kernel) rfl rfl dX9_arm_36 ?_
      refine g_calli hG (g_runV (rm := rm_X7_isClear) (As := []) (rest := []) (n := 0) hE hG (m_X7_isClear l X hw _) gX9_arm_X7_isClear rfl rfl rfl (by decide +kernel) ⟨Nat.le_of_ble_eq_true rfl, Nat.le_of_ble_eq_true rfl⟩ (kd_lt kc41 (by decide)) (ce_7 kc41) rfl rfl rfl hl.1 (Nat.le_of_ble_eq_true rfl) dX9_arm_39 ⟨Nat.zero_le _, Nat.zero_le _⟩) (fun r9 σ10 H locs hw hG => ?_)
      refine lv_if_ne (tgt := 56) hx hb dX9_arm_42 (by decide) (fun hc11 => ?_) (fun hc11 => ?_)
      · have hw := hw.1 hc11
        refine lv_aload_n hx hb dX9_arm_56 rfl (lv_at hl 1 rfl) ?_
        refine g_get (k := 1) hE hG (kd_lt kc0 (by decide)) (ce_9 kc0) rfl (by decide +kernel) (by decide) (by decide +kernel) rfl rfl dX9_arm_57 ?_
        refine g_get (k := 1) hE hG (kd_lt kc41 (by decide)) (ce_7 kc41) rfl (by decide +kernel) (by decide) (by decide +kernel) rfl rfl dX9_arm_60 ?_
        obtain ⟨hk12, hw⟩ := hw
        refine lv_iconst (v := 0) hx hb dX9_arm_63 (by decide) ?_
        refine g_put (k := 2) (x := (0 : Int32)) (ty := .int) hE hG (kd_lt hk12 (by decide)) (ce_4 hk12) (by rw [ce_4 hk12]; rfl) rfl (by decide +kernel) tyX4 tyX4_ok nmX4 (by decide) (by decide +kernel) rfl rfl (by decide +kernel) rfl rfl (Nat.le_of_ble_eq_true rfl) dX9_arm_64 (fun σ13 H locs eσ13 hG => ?_)
        have hw := hw σ13 eσ13
        refine lv_iload_n hx hb dX9_arm_67 rfl (lv_at hl 0 rfl) ?_
        exact g_iret hE hG hr hlk dX9_arm_68 hw
      · have hw := hw.2 hc11
        refine lv_aload_n hx hb dX9_arm_45 rfl (lv_at hl 1 rfl) ?_
        refine g_get (k := 1) hE hG (kd_lt kc0 (by decide)) (ce_9 kc0) rfl (by decide +kernel) (by decide) (by decide +kernel) rfl rfl dX9_arm_46 ?_
        refine lv_iload_n hx hb dX9_arm_49 rfl (lv_at hl 2 rfl) ?_
        refine g_callv hG (g_runV (rm := rm_X7_swapWithTold) (As := [.int v1]) (rest := []) (n := 1) hE hG (m_X7_swapWithTold l X hw _) gX9_arm_X7_swapWithTold rfl rfl rfl (by decide +kernel) ⟨Nat.le_of_ble_eq_true rfl, Nat.le_of_ble_eq_true rfl⟩ (kd_lt kc41 (by decide)) (ce_7 kc41) rfl rfl rfl hl.1 (Nat.le_of_ble_eq_true rfl) dX9_arm_50 ⟨Nat.zero_le _, Nat.zero_le _⟩) (fun σ15 H locs hw hG => ?_)
        refine lv_bipush (v := (-5)) hx hb dX9_arm_53 (by decide) ?_
        exact g_iret hE hG hr hlk dX9_arm_55 hw
    · have hw := hw.2 hc6
      refine lv_bipush (v := (-4)) hx hb dX9_arm_24 (by decide) ?_
      exact g_iret hE hG hr hlk dX9_arm_26 hw
  · have hw := hw.2 hc3
    refine lv_iconst (v := (-1)) hx hb dX9_arm_7 (by decide) ?_
    exact g_iret hE hG hr hlk dX9_arm_8 hw

set_option maxHeartbeats 4000000 in
set_option maxRecDepth 100000 in
theorem m_X9_knot (l : Launch) (X : wX) {Q : Int32 → St → Prop} {v1 : Int32} {v2 : Int32} {σ : St} (hw : wp_X9_knot Q v1 v2 σ) : mI X kcL l yX9_knot wsX9_knot rm_X9_knot [.ref (X.2.1 0), .int v1, .int v2] σ Q := by
  refine mI.of (cc := cX9_knot) (maxL := 3) (ret := (some .int)) (by decide +kernel) rfl (Nat.le_of_ble_eq_true rfl) ?_
  intro A p e s m args below meth c ls hE hr hlk hl hG
  have hx := hE.1.1
  have hb := hE.1.2.1
  unfold wp_X9_knot at hw
  have hl : lv_has ls 3 [(0, .ref (X.2.1 0)), (1, .int v1), (2, .int v2)] := hl
  refine lv_iload_n hx hb dX9_knot_0 rfl (lv_at hl 1 rfl) ?_
  refine g_calli hG (g_runS (rm := rm_X9_isDegree) (As := [.int v1]) (rest := []) (n := 1) hE hG (m_X9_isDegree l X hw _) gX9_knot_X9_isDegree rfl rfl rfl (by decide +kernel) ⟨Nat.le_of_ble_eq_true rfl, Nat.le_of_ble_eq_true rfl⟩ rfl hl.1 (Nat.le_of_ble_eq_true rfl) dX9_knot_1 ⟨Nat.zero_le _, Nat.zero_le _⟩) (fun r1 σ2 H locs hw hG => ?_)
  refine lv_if_eq (tgt := 32) hx hb dX9_knot_4 (by decide) (fun hc3 => ?_) (fun hc3 => ?_)
  · have hw := hw.1 hc3
    refine lv_iconst (v := (-1)) hx hb dX9_knot_32 (by decide) ?_
    exact g_iret hE hG hr hlk dX9_knot_33 hw
  · have hw := hw.2 hc3
    refine lv_iload_n hx hb dX9_knot_7 rfl (lv_at hl 2 rfl) ?_
    refine lv_iconst (v := 0) hx hb dX9_knot_8 (by decide) ?_
    refine lv_sipush (v := (1000)) hx hb dX9_knot_9 (by decide) ?_
    refine g_calli hG (g_runS (rm := rm_X9_isBetween) (As := [.int v2, .int (0 : Int32), .int (1000 : Int32)]) (rest := []) (n := 3) hE hG (m_X9_isBetween l X hw _) gX9_knot_X9_isBetween rfl rfl rfl (by decide +kernel) ⟨Nat.le_of_ble_eq_true rfl, Nat.le_of_ble_eq_true rfl⟩ rfl hl.1 (Nat.le_of_ble_eq_true rfl) dX9_knot_12 ⟨Nat.zero_le _, Nat.zero_le _⟩) (fun r4 σ5 H locs hw hG => ?_)
    refine lv_if_eq (tgt := 32) hx hb dX9_knot_15 (by decide) (fun hc6 => ?_) (fun hc6 => ?_)
    · have hw := hw.1 hc6
      refine lv_iconst (v := (-1)) hx hb dX9_knot_32 (by decide) ?_
      exact g_iret hE hG hr hlk dX9_knot_33 hw
    · have hw := hw.2 hc6
      refine lv_iload_n hx hb dX9_knot_18 rfl (lv_at hl 1 rfl) ?_
      refine lv_aload_n hx hb dX9_knot_19 rfl (lv_at hl 0 rfl) ?_
      refine g_get (k := 1) hE hG (kd_lt kc0 (by decide)) (ce_9 kc0) rfl (by decide +kernel) (by decide) (by decide +kernel) rfl rfl dX9_knot_20 ?_
      refine g_get (k := 1) hE hG (kd_lt kc41 (by decide)) (ce_7 kc41) rfl (by decide +kernel) (by decide) (by decide +kernel) rfl rfl dX9_knot_23 ?_
      obtain ⟨hk7, hw⟩ := hw
      refine g_calli hG (g_runV (rm := rm_X4_latest) (As := []) (rest := [.int v1]) (n := 0) hE hG (m_X4_latest l X hk7 hw _) gX9_knot_X4_latest rfl rfl rfl (by decide +kernel) ⟨Nat.le_of_ble_eq_true rfl, Nat.le_of_ble_eq_true rfl⟩ (kd_lt hk7 (by decide)) (ce_4 hk7) rfl rfl rfl hl.1 (Nat.le_of_ble_eq_true rfl) dX9_knot_26 ⟨Nat.zero_le _, Nat.zero_le _⟩) (fun r8 σ9 H locs hw hG => ?_)
      refine lv_icmp_gt (tgt := 34) hx hb dX9_knot_29 (by decide) (fun hc10 => ?_) (fun hc10 => ?_)
      · have hw := hw.1 hc10
        refine lv_aload_n hx hb dX9_knot_34 rfl (lv_at hl 0 rfl) ?_
        refine g_get (k := 1) hE hG (kd_lt kc0 (by decide)) (ce_9 kc0) rfl (by decide +kernel) (by decide) (by decide +kernel) rfl rfl dX9_knot_35 ?_
        refine g_get (k := 1) hE hG (kd_lt kc41 (by decide)) (ce_7 kc41) rfl (by decide +kernel) (by decide) (by decide +kernel) rfl rfl dX9_knot_38 ?_
        obtain ⟨hk11, hw⟩ := hw
        refine g_get (k := 2) hE hG (kd_lt hk11 (by decide)) (ce_4 hk11) rfl (by decide +kernel) (by decide) (by decide +kernel) rfl rfl dX9_knot_41 ?_
        refine lv_bipush (v := (6)) hx hb dX9_knot_44 (by decide) ?_
        refine lv_icmp_lt (tgt := 52) hx hb dX9_knot_46 (by decide) (fun hc12 => ?_) (fun hc12 => ?_)
        · have hw := hw.1 hc12
          refine lv_aload_n hx hb dX9_knot_52 rfl (lv_at hl 0 rfl) ?_
          refine g_get (k := 1) hE hG (kd_lt kc0 (by decide)) (ce_9 kc0) rfl (by decide +kernel) (by decide) (by decide +kernel) rfl rfl dX9_knot_53 ?_
          refine g_get (k := 1) hE hG (kd_lt kc41 (by decide)) (ce_7 kc41) rfl (by decide +kernel) (by decide) (by decide +kernel) rfl rfl dX9_knot_56 ?_
          obtain ⟨hk13, hw⟩ := hw
          refine lv_iload_n hx hb dX9_knot_59 rfl (lv_at hl 1 rfl) ?_
          refine lv_iload_n hx hb dX9_knot_60 rfl (lv_at hl 2 rfl) ?_
          refine g_callv hG (g_runV (rm := rm_X4_add) (As := [.int v1, .int v2]) (rest := []) (n := 2) hE hG (m_X4_add l X hk13 hw _) gX9_knot_X4_add rfl rfl rfl (by decide +kernel) ⟨Nat.le_of_ble_eq_true rfl, Nat.le_of_ble_eq_true rfl⟩ (kd_lt hk13 (by decide)) (ce_4 hk13) rfl rfl rfl hl.1 (Nat.le_of_ble_eq_true rfl) dX9_knot_61 ⟨Nat.zero_le _, Nat.zero_le _⟩) (fun σ15 H locs hw hG => ?_)
          refine lv_aload_n hx hb dX9_knot_64 rfl (lv_at hl 0 rfl) ?_
          refine g_get (k := 1) hE hG (kd_lt kc0 (by decide)) (ce_9 kc0) rfl (by decide +kernel) (by decide) (by decide +kernel) rfl rfl dX9_knot_65 ?_
          refine g_get (k := 1) hE hG (kd_lt kc41 (by decide)) (ce_7 kc41) rfl (by decide +kernel) (by decide) (by decide +kernel) rfl rfl dX9_knot_68 ?_
          obtain ⟨hk16, hw⟩ := hw
          refine g_get (k := 2) hE hG (kd_lt hk16 (by decide)) (ce_4 hk16) rfl (by decide +kernel) (by decide) (by decide +kernel) rfl rfl dX9_knot_71 ?_
          exact g_iret hE hG hr hlk dX9_knot_74 hw
        · have hw := hw.2 hc12
          refine lv_bipush (v := (-2)) hx hb dX9_knot_49 (by decide) ?_
          exact g_iret hE hG hr hlk dX9_knot_51 hw
      · have hw := hw.2 hc10
        refine lv_iconst (v := (-1)) hx hb dX9_knot_32 (by decide) ?_
        exact g_iret hE hG hr hlk dX9_knot_33 hw

set_option maxHeartbeats 4000000 in
set_option maxRecDepth 100000 in
theorem m_X9_forget (l : Launch) (X : wX) {Q : Int32 → St → Prop} {σ : St} (hw : wp_X9_forget Q σ) : mI X kcL l yX9_forget wsX9_forget rm_X9_forget [.ref (X.2.1 0)] σ Q := by
  refine mI.of (cc := cX9_forget) (maxL := 2) (ret := (some .int)) (by decide +kernel) rfl (Nat.le_of_ble_eq_true rfl) ?_
  intro A p e s m args below meth c ls hE hr hlk hl hG
  have hx := hE.1.1
  have hb := hE.1.2.1
  unfold wp_X9_forget at hw
  have hl : lv_has ls 2 [(0, .ref (X.2.1 0))] := hl
  refine lv_aload_n hx hb dX9_forget_0 rfl (lv_at hl 0 rfl) ?_
  refine g_get (k := 1) hE hG (kd_lt kc0 (by decide)) (ce_9 kc0) rfl (by decide +kernel) (by decide) (by decide +kernel) rfl rfl dX9_forget_1 ?_
  refine g_get (k := 1) hE hG (kd_lt kc41 (by decide)) (ce_7 kc41) rfl (by decide +kernel) (by decide) (by decide +kernel) rfl rfl dX9_forget_4 ?_
  obtain ⟨hk1, hw⟩ := hw
  refine g_get (k := 2) hE hG (kd_lt hk1 (by decide)) (ce_4 hk1) rfl (by decide +kernel) (by decide) (by decide +kernel) rfl rfl dX9_forget_7 ?_
  refine lv_topi (fun x2 ex2 => ?_)
  have hw := hw x2 ex2
  refine lv_istore_n (lv' := [(1, .int x2), (0, .ref (X.2.1 0))]) hx hb dX9_forget_10 rfl hl (by decide) rfl (fun ls hl => ?_)
  refine lv_aload_n hx hb dX9_forget_11 rfl (lv_at hl 1 rfl) ?_
  refine g_get (k := 1) hE hG (kd_lt kc0 (by decide)) (ce_9 kc0) rfl (by decide +kernel) (by decide) (by decide +kernel) rfl rfl dX9_forget_12 ?_
  refine g_get (k := 1) hE hG (kd_lt kc41 (by decide)) (ce_7 kc41) rfl (by decide +kernel) (by decide) (by decide +kernel) rfl rfl dX9_forget_15 ?_
  obtain ⟨hk3, hw⟩ := hw
  refine lv_iconst (v := 0) hx hb dX9_forget_18 (by decide) ?_
  refine g_put (k := 2) (x := (0 : Int32)) (ty := .int) hE hG (kd_lt hk3 (by decide)) (ce_4 hk3) (by rw [ce_4 hk3]; rfl) rfl (by decide +kernel) tyX4 tyX4_ok nmX4 (by decide) (by decide +kernel) rfl rfl (by decide +kernel) rfl rfl (Nat.le_of_ble_eq_true rfl) dX9_forget_19 (fun σ4 H locs eσ4 hG => ?_)
  have hw := hw σ4 eσ4
  refine lv_iload_n hx hb dX9_forget_22 rfl (lv_at hl 0 rfl) ?_
  exact g_iret hE hG hr hlk dX9_forget_23 hw

set_option maxHeartbeats 4000000 in
set_option maxRecDepth 100000 in
theorem b_X9_greatestDivisor_7 {p : Program} {l : Launch} {e : Env} {s : State} {m : MethodId} {args : Array Value} {below : List Frame} {meth : Method} {c : Code} {X : wX} {A : Nat → Prop} (hE : eV p m c cX9_greatestDivisor 6 s args wsX9_greatestDivisor RX9 X) (hr : meth.sig.returnType = (some .int)) (hlk : meth.locks = false) {Q : Int32 → St → Prop} : ∀ (n : Nat) (σ : St) (v2 : Int32) (v3 : Int32) (v4 : Int32) (H : Heap) (locs : List Loc) (ls : Array Slot), wl_X9_greatestDivisor_7 Q n σ v2 v3 v4 → gW X kcL A s.heap σ H locs → lv_has ls 6 [(2, .int v2), (3, .int v3), (4, .int v4)] → W p l e rm_X9_greatestDivisor s m args below meth c H locs 0 0 (zI X kcL below args s A Q) (F0 m 7 ls []) := by
  have hx := hE.1.1
  have hb := hE.1.2.1
  intro n
  induction n with
  | zero =>
    intro σ v2 v3 v4 H locs ls hw
    exact False.elim hw
  | succ n ih =>
    intro σ v2 v3 v4 H locs ls hw hG hl
    have hw : wB_X9_greatestDivisor_7 Q (wl_X9_greatestDivisor_7 Q n) σ v2 v3 v4 := hw
    unfold wB_X9_greatestDivisor_7 at hw
    refine lv_iload hx hb dX9_greatestDivisor_7 (lv_at hl 2 rfl) ?_
    refine lv_bipush (v := (64)) hx hb dX9_greatestDivisor_9 (by decide) ?_
    refine lv_icmp_ge (tgt := 34) hx hb dX9_greatestDivisor_11 (by decide) (fun hc1 => ?_) (fun hc1 => ?_)
    · have hw := hw.1 hc1
      refine lv_iconst (v := 1) hx hb dX9_greatestDivisor_34 (by decide) ?_
      refine lv_iload_n hx hb dX9_greatestDivisor_35 rfl (lv_at hl 0 rfl) ?_
      refine va_mmax hx hb (by rw [hl.1]; exact hE.1.2.2.1) hE.1.2.2.2.1 (hE.1.2.2.2.2 _ (by decide +kernel)) (hE.1.2.2.2.2 _ (by decide +kernel)) (hE.1.2.2.2.2 _ (by decide +kernel)) (hE.1.2.2.2.2 _ (by decide +kernel)) (Nat.le_of_ble_eq_true rfl) (Nat.le_of_ble_eq_true rfl) (Nat.zero_le _) (Nat.zero_le _) dX9_greatestDivisor_36 ?_
      exact g_iret hE hG hr hlk dX9_greatestDivisor_39 hw
    · have hw := hw.2 hc1
      refine lv_iload_n hx hb dX9_greatestDivisor_14 rfl (lv_at hl 1 rfl) ?_
      refine lv_if_eq (tgt := 34) hx hb dX9_greatestDivisor_15 (by decide) (fun hc2 => ?_) (fun hc2 => ?_)
      · have hw := hw.1 hc2
        refine lv_iconst (v := 1) hx hb dX9_greatestDivisor_34 (by decide) ?_
        refine lv_iload_n hx hb dX9_greatestDivisor_35 rfl (lv_at hl 0 rfl) ?_
        refine va_mmax hx hb (by rw [hl.1]; exact hE.1.2.2.1) hE.1.2.2.2.1 (hE.1.2.2.2.2 _ (by decide +kernel)) (hE.1.2.2.2.2 _ (by decide +kernel)) (hE.1.2.2.2.2 _ (by decide +kernel)) (hE.1.2.2.2.2 _ (by decide +kernel)) (Nat.le_of_ble_eq_true rfl) (Nat.le_of_ble_eq_true rfl) (Nat.zero_le _) (Nat.zero_le _) dX9_greatestDivisor_36 ?_
        exact g_iret hE hG hr hlk dX9_greatestDivisor_39 hw
      · have hw := hw.2 hc2
        refine lv_iload_n hx hb dX9_greatestDivisor_18 rfl (lv_at hl 0 rfl) ?_
        refine lv_iload_n hx hb dX9_greatestDivisor_19 rfl (lv_at hl 1 rfl) ?_
        obtain ⟨hz3, hw⟩ := hw
        refine lv_irem hx hb dX9_greatestDivisor_20 hz3 ?_
        refine lv_topi (fun x4 ex4 => ?_)
        have hw := hw x4 ex4
        refine lv_istore (lv' := [(5, .int x4), (2, .int v2), (3, .int v3), (4, .int v4)]) hx hb dX9_greatestDivisor_21 hl (by decide) rfl (fun ls hl => ?_)
        refine lv_iload_n hx hb dX9_greatestDivisor_23 rfl (lv_at hl 2 rfl) ?_
        refine lv_istore_n (lv' := [(2, .int v3), (5, .int x4), (3, .int v3), (4, .int v4)]) hx hb dX9_greatestDivisor_24 rfl hl (by decide) rfl (fun ls hl => ?_)
        refine lv_iload hx hb dX9_greatestDivisor_25 (lv_at hl 1 rfl) ?_
        refine lv_istore_n (lv' := [(3, .int x4), (2, .int v3), (5, .int x4), (4, .int v4)]) hx hb dX9_greatestDivisor_27 rfl hl (by decide) rfl (fun ls hl => ?_)
        obtain ⟨x5, ex5⟩ : ∃ z : Int32, z = v4 + (1 : Int32) := ⟨_, rfl⟩
        have hw := hw x5 ex5
        refine lv_iinc (v := x5) (lv' := [(4, .int x5), (3, .int x4), (2, .int v3), (5, .int x4)]) hx hb dX9_greatestDivisor_28 hl (k := 3) rfl (by rw [ex5]; rfl) (by decide) rfl (fun ls hl => ?_)
        refine lv_goto (tgt := 7) hx hb dX9_greatestDivisor_31 (by decide) ?_
        exact ih _ _ _ _ _ _ _ hw hG (lv_sub hl [2, 1, 0] rfl)

set_option maxHeartbeats 4000000 in
set_option maxRecDepth 100000 in
theorem m_X9_greatestDivisor (l : Launch) (X : wX) {Q : Int32 → St → Prop} {v0 : Int32} {v1 : Int32} {σ : St} (hw : wp_X9_greatestDivisor Q v0 v1 σ) : mI X kcL l yX9_greatestDivisor wsX9_greatestDivisor rm_X9_greatestDivisor [.int v0, .int v1] σ Q := by
  refine mI.of (cc := cX9_greatestDivisor) (maxL := 6) (ret := (some .int)) (by decide +kernel) rfl (Nat.le_of_ble_eq_true rfl) ?_
  intro A p e s m args below meth c ls hE hr hlk hl hG
  have hx := hE.1.1
  have hb := hE.1.2.1
  unfold wp_X9_greatestDivisor at hw
  have hl : lv_has ls 6 [(0, .int v0), (1, .int v1)] := hl
  refine lv_iload_n hx hb dX9_greatestDivisor_0 rfl (lv_at hl 0 rfl) ?_
  refine lv_istore_n (lv' := [(2, .int v0), (0, .int v0), (1, .int v1)]) hx hb dX9_greatestDivisor_1 rfl hl (by decide) rfl (fun ls hl => ?_)
  refine lv_iload_n hx hb dX9_greatestDivisor_2 rfl (lv_at hl 2 rfl) ?_
  refine lv_istore_n (lv' := [(3, .int v1), (2, .int v0), (0, .int v0), (1, .int v1)]) hx hb dX9_greatestDivisor_3 rfl hl (by decide) rfl (fun ls hl => ?_)
  refine lv_iconst (v := 0) hx hb dX9_greatestDivisor_4 (by decide) ?_
  refine lv_istore (lv' := [(4, .int (0 : Int32)), (3, .int v1), (2, .int v0), (0, .int v0), (1, .int v1)]) hx hb dX9_greatestDivisor_5 hl (by decide) rfl (fun ls hl => ?_)
  obtain ⟨n, hw⟩ := hw
  exact b_X9_greatestDivisor_7 hE hr hlk n _ _ _ _ _ _ _ hw hG (lv_sub hl [2, 1, 0] rfl)

set_option maxHeartbeats 4000000 in
set_option maxRecDepth 100000 in
theorem m_X9_place (l : Launch) (X : wX) {Q : Int32 → St → Prop} {v1 : Int32} {v2 : Int32} {v3 : Int32} {σ : St} (hw : wp_X9_place Q v1 v2 v3 σ) : mI X kcL l yX9_place wsX9_place rm_X9_place [.ref (X.2.1 0), .int v1, .int v2, .int v3] σ Q := by
  refine mI.of (cc := cX9_place) (maxL := 7) (ret := (some .int)) (by decide +kernel) rfl (Nat.le_of_ble_eq_true rfl) ?_
  intro A p e s m args below meth c ls hE hr hlk hl hG
  have hx := hE.1.1
  have hb := hE.1.2.1
  unfold wp_X9_place at hw
  have hl : lv_has ls 7 [(0, .ref (X.2.1 0)), (1, .int v1), (2, .int v2), (3, .int v3)] := hl
  refine lv_iload_n hx hb dX9_place_0 rfl (lv_at hl 1 rfl) ?_
  refine g_calli hG (g_runS (rm := rm_X9_isArm) (As := [.int v1]) (rest := []) (n := 1) hE hG (m_X9_isArm l X hw _) gX9_place_X9_isArm rfl rfl rfl (by decide +kernel) ⟨Nat.le_of_ble_eq_true rfl, Nat.le_of_ble_eq_true rfl⟩ rfl hl.1 (Nat.le_of_ble_eq_true rfl) dX9_place_1 ⟨Nat.zero_le _, Nat.zero_le _⟩) (fun r1 σ2 H locs hw hG => ?_)
  refine lv_if_eq (tgt := 23) hx hb dX9_place_4 (by decide) (fun hc3 => ?_) (fun hc3 => ?_)
  · have hw := hw.1 hc3
    refine lv_iconst (v := (-1)) hx hb dX9_place_23 (by decide) ?_
    exact g_iret hE hG hr hlk dX9_place_24 hw
  · have hw := hw.2 hc3
    refine lv_iload_n hx hb dX9_place_7 rfl (lv_at hl 2 rfl) ?_
    refine g_calli hG (g_runS (rm := rm_X9_isDegree) (As := [.int v2]) (rest := []) (n := 1) hE hG (m_X9_isDegree l X hw _) gX9_place_X9_isDegree rfl rfl rfl (by decide +kernel) ⟨Nat.le_of_ble_eq_true rfl, Nat.le_of_ble_eq_true rfl⟩ rfl hl.1 (Nat.le_of_ble_eq_true rfl) dX9_place_8 ⟨Nat.zero_le _, Nat.zero_le _⟩) (fun r4 σ5 H locs hw hG => ?_)
    refine lv_if_eq (tgt := 23) hx hb dX9_place_11 (by decide) (fun hc6 => ?_) (fun hc6 => ?_)
    · have hw := hw.1 hc6
      refine lv_iconst (v := (-1)) hx hb dX9_place_23 (by decide) ?_
      exact g_iret hE hG hr hlk dX9_place_24 hw
    · have hw := hw.2 hc6
      refine lv_iload_n hx hb dX9_place_14 rfl (lv_at hl 3 rfl) ?_
      refine lv_iconst (v := 0) hx hb dX9_place_15 (by decide) ?_
      refine lv_iconst (v := 1) hx hb dX9_place_16 (by decide) ?_
      refine g_calli hG (g_runS (rm := rm_X9_isBetween) (As := [.int v3, .int (0 : Int32), .int (1 : Int32)]) (rest := []) (n := 3) hE hG (m_X9_isBetween l X hw _) gX9_place_X9_isBetween rfl rfl rfl (by decide +kernel) ⟨Nat.le_of_ble_eq_true rfl, Nat.le_of_ble_eq_true rfl⟩ rfl hl.1 (Nat.le_of_ble_eq_true rfl) dX9_place_17 ⟨Nat.zero_le _, Nat.zero_le _⟩) (fun r7 σ8 H locs hw hG => ?_)
      refine lv_if_ne (tgt := 25) hx hb dX9_place_20 (by decide) (fun hc9 => ?_) (fun hc9 => ?_)
      · have hw := hw.1 hc9
        refine lv_aload_n hx hb dX9_place_25 rfl (lv_at hl 0 rfl) ?_
        refine g_get (k := 1) hE hG (kd_lt kc0 (by decide)) (ce_9 kc0) rfl (by decide +kernel) (by decide) (by decide +kernel) rfl rfl dX9_place_26 ?_
        refine g_get (k := 0) hE hG (kd_lt kc41 (by decide)) (ce_7 kc41) rfl (by decide +kernel) (by decide) (by decide +kernel) rfl rfl dX9_place_29 ?_
        refine lv_iload_n hx hb dX9_place_32 rfl (lv_at hl 1 rfl) ?_
        obtain ⟨hi10, hw⟩ := hw
        obtain ⟨hk11, hw⟩ := hw
        refine g_aald (q := ((σ8 42 v1.toNatClampNeg).toNatClampNeg)) (t0 := 4) hE hG (kd_lt kc42 (by decide)) (ce_302 kc42) rfl hi10 rfl dX9_place_33 ?_
        refine lv_iload_n hx hb dX9_place_34 rfl (lv_at hl 2 rfl) ?_
        refine g_calli hG (g_runV (rm := rm_X4_above) (As := [.int v2]) (rest := []) (n := 1) hE hG (m_X4_above l X hk11 hw _) gX9_place_X4_above rfl rfl rfl (by decide +kernel) ⟨Nat.le_of_ble_eq_true rfl, Nat.le_of_ble_eq_true rfl⟩ (kd_lt hk11 (by decide)) (ce_4 hk11) rfl rfl rfl hl.1 (Nat.le_of_ble_eq_true rfl) dX9_place_35 ⟨Nat.zero_le _, Nat.zero_le _⟩) (fun r12 σ13 H locs hw hG => ?_)
        refine lv_istore (lv' := [(4, .int r12), (0, .ref (X.2.1 0)), (1, .int v1), (2, .int v2), (3, .int v3)]) hx hb dX9_place_38 hl (by decide) rfl (fun ls hl => ?_)
        refine lv_aload_n hx hb dX9_place_40 rfl (lv_at hl 1 rfl) ?_
        refine g_get (k := 1) hE hG (kd_lt kc0 (by decide)) (ce_9 kc0) rfl (by decide +kernel) (by decide) (by decide +kernel) rfl rfl dX9_place_41 ?_
        refine g_get (k := 0) hE hG (kd_lt kc41 (by decide)) (ce_7 kc41) rfl (by decide +kernel) (by decide) (by decide +kernel) rfl rfl dX9_place_44 ?_
        refine lv_iload_n hx hb dX9_place_47 rfl (lv_at hl 2 rfl) ?_
        obtain ⟨hi14, hw⟩ := hw
        obtain ⟨hk15, hw⟩ := hw
        refine g_aald (q := ((σ13 42 v1.toNatClampNeg).toNatClampNeg)) (t0 := 4) hE hG (kd_lt kc42 (by decide)) (ce_302 kc42) rfl hi14 rfl dX9_place_48 ?_
        refine lv_iload_n hx hb dX9_place_49 rfl (lv_at hl 3 rfl) ?_
        refine g_calli hG (g_runV (rm := rm_X4_below) (As := [.int v2]) (rest := []) (n := 1) hE hG (m_X4_below l X hk15 hw _) gX9_place_X4_below rfl rfl rfl (by decide +kernel) ⟨Nat.le_of_ble_eq_true rfl, Nat.le_of_ble_eq_true rfl⟩ (kd_lt hk15 (by decide)) (ce_4 hk15) rfl rfl rfl hl.1 (Nat.le_of_ble_eq_true rfl) dX9_place_50 ⟨Nat.zero_le _, Nat.zero_le _⟩) (fun r16 σ17 H locs hw hG => ?_)
        refine lv_istore (lv' := [(5, .int r16), (4, .int r12), (0, .ref (X.2.1 0)), (1, .int v1), (2, .int v2), (3, .int v3)]) hx hb dX9_place_53 hl (by decide) rfl (fun ls hl => ?_)
        refine lv_iload hx hb dX9_place_55 (lv_at hl 1 rfl) ?_
        refine lv_iload hx hb dX9_place_57 (lv_at hl 0 rfl) ?_
        refine g_calli hG (g_runS (rm := rm_X9_greatestDivisor) (As := [.int r12, .int r16]) (rest := []) (n := 2) hE hG (m_X9_greatestDivisor l X hw _) gX9_place_X9_greatestDivisor rfl rfl rfl (by decide +kernel) ⟨Nat.le_of_ble_eq_true rfl, Nat.le_of_ble_eq_true rfl⟩ rfl hl.1 (Nat.le_of_ble_eq_true rfl) dX9_place_59 ⟨Nat.zero_le _, Nat.zero_le _⟩) (fun r18 σ19 H locs hw hG => ?_)
        refine lv_istore (lv' := [(6, .int r18), (5, .int r16), (4, .int r12), (0, .ref (X.2.1 0)), (1, .int v1), (2, .int v2), (3, .int v3)]) hx hb dX9_place_62 hl (by decide) rfl (fun ls hl => ?_)
        refine lv_iload_n hx hb dX9_place_64 rfl (lv_at hl 6 rfl) ?_
        refine lv_if_ne (tgt := 76) hx hb dX9_place_65 (by decide) (fun hc20 => ?_) (fun hc20 => ?_)
        · have hw := hw.1 hc20
          refine lv_iload hx hb dX9_place_76 (lv_at hl 1 rfl) ?_
          refine lv_iload hx hb dX9_place_78 (lv_at hl 0 rfl) ?_
          obtain ⟨hz21, hw⟩ := hw
          refine lv_idiv hx hb dX9_place_80 hz21 ?_
          exact g_iret hE hG hr hlk dX9_place_81 hw
        · have hw := hw.2 hc20
          refine lv_iload hx hb dX9_place_68 (lv_at hl 2 rfl) ?_
          refine lv_iload hx hb dX9_place_70 (lv_at hl 0 rfl) ?_
          obtain ⟨hz22, hw⟩ := hw
          refine lv_idiv hx hb dX9_place_72 hz22 ?_
          refine lv_goto (tgt := 81) hx hb dX9_place_73 (by decide) ?_
          exact g_iret hE hG hr hlk dX9_place_81 hw
      · have hw := hw.2 hc9
        refine lv_iconst (v := (-1)) hx hb dX9_place_23 (by decide) ?_
        exact g_iret hE hG hr hlk dX9_place_24 hw

set_option maxHeartbeats 4000000 in
set_option maxRecDepth 100000 in
theorem m_X9_nearest (l : Launch) (X : wX) {Q : Int32 → St → Prop} {v1 : Int32} {v2 : Int32} {σ : St} (hw : wp_X9_nearest Q v1 v2 σ) : mI X kcL l yX9_nearest wsX9_nearest rm_X9_nearest [.ref (X.2.1 0), .int v1, .int v2] σ Q := by
  refine mI.of (cc := cX9_nearest) (maxL := 3) (ret := (some .int)) (by decide +kernel) rfl (Nat.le_of_ble_eq_true rfl) ?_
  intro A p e s m args below meth c ls hE hr hlk hl hG
  have hx := hE.1.1
  have hb := hE.1.2.1
  unfold wp_X9_nearest at hw
  have hl : lv_has ls 3 [(0, .ref (X.2.1 0)), (1, .int v1), (2, .int v2)] := hl
  refine lv_iload_n hx hb dX9_nearest_0 rfl (lv_at hl 1 rfl) ?_
  refine g_calli hG (g_runS (rm := rm_X9_isArm) (As := [.int v1]) (rest := []) (n := 1) hE hG (m_X9_isArm l X hw _) gX9_nearest_X9_isArm rfl rfl rfl (by decide +kernel) ⟨Nat.le_of_ble_eq_true rfl, Nat.le_of_ble_eq_true rfl⟩ rfl hl.1 (Nat.le_of_ble_eq_true rfl) dX9_nearest_1 ⟨Nat.zero_le _, Nat.zero_le _⟩) (fun r1 σ2 H locs hw hG => ?_)
  refine lv_if_eq (tgt := 19) hx hb dX9_nearest_4 (by decide) (fun hc3 => ?_) (fun hc3 => ?_)
  · have hw := hw.1 hc3
    refine lv_iconst (v := (-1)) hx hb dX9_nearest_19 (by decide) ?_
    exact g_iret hE hG hr hlk dX9_nearest_20 hw
  · have hw := hw.2 hc3
    refine lv_iload_n hx hb dX9_nearest_7 rfl (lv_at hl 2 rfl) ?_
    refine g_calli hG (g_runS (rm := rm_X9_isArm) (As := [.int v2]) (rest := []) (n := 1) hE hG (m_X9_isArm l X hw _) gX9_nearest_X9_isArm rfl rfl rfl (by decide +kernel) ⟨Nat.le_of_ble_eq_true rfl, Nat.le_of_ble_eq_true rfl⟩ rfl hl.1 (Nat.le_of_ble_eq_true rfl) dX9_nearest_8 ⟨Nat.zero_le _, Nat.zero_le _⟩) (fun r4 σ5 H locs hw hG => ?_)
    refine lv_if_eq (tgt := 19) hx hb dX9_nearest_11 (by decide) (fun hc6 => ?_) (fun hc6 => ?_)
    · have hw := hw.1 hc6
      refine lv_iconst (v := (-1)) hx hb dX9_nearest_19 (by decide) ?_
      exact g_iret hE hG hr hlk dX9_nearest_20 hw
    · have hw := hw.2 hc6
      refine lv_iload_n hx hb dX9_nearest_14 rfl (lv_at hl 1 rfl) ?_
      refine lv_iload_n hx hb dX9_nearest_15 rfl (lv_at hl 2 rfl) ?_
      refine lv_icmp_lt (tgt := 21) hx hb dX9_nearest_16 (by decide) (fun hc7 => ?_) (fun hc7 => ?_)
      · have hw := hw.1 hc7
        refine lv_aload_n hx hb dX9_nearest_21 rfl (lv_at hl 0 rfl) ?_
        refine g_get (k := 1) hE hG (kd_lt kc0 (by decide)) (ce_9 kc0) rfl (by decide +kernel) (by decide) (by decide +kernel) rfl rfl dX9_nearest_22 ?_
        refine lv_aload_n hx hb dX9_nearest_25 rfl (lv_at hl 0 rfl) ?_
        refine g_get (k := 1) hE hG (kd_lt kc0 (by decide)) (ce_9 kc0) rfl (by decide +kernel) (by decide) (by decide +kernel) rfl rfl dX9_nearest_26 ?_
        refine g_get (k := 0) hE hG (kd_lt kc41 (by decide)) (ce_7 kc41) rfl (by decide +kernel) (by decide) (by decide +kernel) rfl rfl dX9_nearest_29 ?_
        refine lv_iload_n hx hb dX9_nearest_32 rfl (lv_at hl 1 rfl) ?_
        obtain ⟨hi8, hw⟩ := hw
        obtain ⟨hk9, hw⟩ := hw
        refine g_aald (q := ((σ5 42 v1.toNatClampNeg).toNatClampNeg)) (t0 := 4) hE hG (kd_lt kc42 (by decide)) (ce_302 kc42) rfl hi8 rfl dX9_nearest_33 ?_
        refine lv_aload_n hx hb dX9_nearest_34 rfl (lv_at hl 0 rfl) ?_
        refine g_get (k := 1) hE hG (kd_lt kc0 (by decide)) (ce_9 kc0) rfl (by decide +kernel) (by decide) (by decide +kernel) rfl rfl dX9_nearest_35 ?_
        refine g_get (k := 0) hE hG (kd_lt kc41 (by decide)) (ce_7 kc41) rfl (by decide +kernel) (by decide) (by decide +kernel) rfl rfl dX9_nearest_38 ?_
        refine lv_iload_n hx hb dX9_nearest_41 rfl (lv_at hl 2 rfl) ?_
        obtain ⟨hi10, hw⟩ := hw
        obtain ⟨hk11, hw⟩ := hw
        refine g_aald (q := ((σ5 42 v2.toNatClampNeg).toNatClampNeg)) (t0 := 4) hE hG (kd_lt kc42 (by decide)) (ce_302 kc42) rfl hi10 rfl dX9_nearest_42 ?_
        refine g_calli hG (g_runV (rm := rm_X7_nearestDegree) (As := [.ref (X.2.1 ((σ5 42 v1.toNatClampNeg).toNatClampNeg)), .ref (X.2.1 ((σ5 42 v2.toNatClampNeg).toNatClampNeg))]) (rest := []) (n := 2) hE hG (m_X7_nearestDegree l X hk9 hk11 hw _) gX9_nearest_X7_nearestDegree rfl rfl rfl (by decide +kernel) ⟨Nat.le_of_ble_eq_true rfl, Nat.le_of_ble_eq_true rfl⟩ (kd_lt kc41 (by decide)) (ce_7 kc41) rfl rfl rfl hl.1 (Nat.le_of_ble_eq_true rfl) dX9_nearest_43 ⟨Nat.zero_le _, Nat.zero_le _⟩) (fun r12 σ13 H locs hw hG => ?_)
        exact g_iret hE hG hr hlk dX9_nearest_46 hw
      · have hw := hw.2 hc7
        refine lv_iconst (v := (-1)) hx hb dX9_nearest_19 (by decide) ?_
        exact g_iret hE hG hr hlk dX9_nearest_20 hw

set_option maxHeartbeats 4000000 in
set_option maxRecDepth 100000 in
theorem m_X9_stop (l : Launch) (X : wX) {Q : Int32 → St → Prop} {v1 : Int32} {σ : St} (hw : wp_X9_stop Q v1 σ) : mI X kcL l yX9_stop wsX9_stop rm_X9_stop [.ref (X.2.1 0), .int v1] σ Q := by
  refine mI.of (cc := cX9_stop) (maxL := 3) (ret := (some .int)) (by decide +kernel) rfl (Nat.le_of_ble_eq_true rfl) ?_
  intro A p e s m args below meth c ls hE hr hlk hl hG
  have hx := hE.1.1
  have hb := hE.1.2.1
  unfold wp_X9_stop at hw
  have hl : lv_has ls 3 [(0, .ref (X.2.1 0)), (1, .int v1)] := hl
  refine lv_iload_n hx hb dX9_stop_0 rfl (lv_at hl 1 rfl) ?_
  refine g_calli hG (g_runS (rm := rm_X9_isSection) (As := [.int v1]) (rest := []) (n := 1) hE hG (m_X9_isSection l X hw _) gX9_stop_X9_isSection rfl rfl rfl (by decide +kernel) ⟨Nat.le_of_ble_eq_true rfl, Nat.le_of_ble_eq_true rfl⟩ rfl hl.1 (Nat.le_of_ble_eq_true rfl) dX9_stop_1 ⟨Nat.zero_le _, Nat.zero_le _⟩) (fun r1 σ2 H locs hw hG => ?_)
  refine lv_if_ne (tgt := 9) hx hb dX9_stop_4 (by decide) (fun hc3 => ?_) (fun hc3 => ?_)
  · have hw := hw.1 hc3
    refine lv_aload_n hx hb dX9_stop_9 rfl (lv_at hl 0 rfl) ?_
    refine g_get (k := 2) hE hG (kd_lt kc0 (by decide)) (ce_9 kc0) rfl (by decide +kernel) (by decide) (by decide +kernel) rfl rfl dX9_stop_10 ?_
    refine lv_iload_n hx hb dX9_stop_13 rfl (lv_at hl 1 rfl) ?_
    refine g_calli hG (g_runV (rm := rm_X6_find) (As := [.int v1]) (rest := []) (n := 1) hE hG (m_X6_find l X hw _) gX9_stop_X6_find rfl rfl rfl (by decide +kernel) ⟨Nat.le_of_ble_eq_true rfl, Nat.le_of_ble_eq_true rfl⟩ (kd_lt kc55 (by decide)) (ce_6 kc55) rfl rfl rfl hl.1 (Nat.le_of_ble_eq_true rfl) dX9_stop_14 ⟨Nat.zero_le _, Nat.zero_le _⟩) (fun r4 σ5 H locs hw hG => ?_)
    refine lv_istore_n (lv' := [(2, .int r4), (0, .ref (X.2.1 0)), (1, .int v1)]) hx hb dX9_stop_17 rfl hl (by decide) rfl (fun ls hl => ?_)
    refine lv_iload_n hx hb dX9_stop_18 rfl (lv_at hl 0 rfl) ?_
    refine lv_iconst (v := (-1)) hx hb dX9_stop_19 (by decide) ?_
    refine lv_icmp_ne (tgt := 26) hx hb dX9_stop_20 (by decide) (fun hc6 => ?_) (fun hc6 => ?_)
    · have hw := hw.1 hc6
      refine lv_aload_n hx hb dX9_stop_26 rfl (lv_at hl 1 rfl) ?_
      refine g_get (k := 2) hE hG (kd_lt kc0 (by decide)) (ce_9 kc0) rfl (by decide +kernel) (by decide) (by decide +kernel) rfl rfl dX9_stop_27 ?_
      refine lv_iload_n hx hb dX9_stop_30 rfl (lv_at hl 0 rfl) ?_
      refine g_callv hG (g_runV (rm := rm_X6_leave) (As := [.int r4]) (rest := []) (n := 1) hE hG (m_X6_leave l X hw _) gX9_stop_X6_leave rfl rfl rfl (by decide +kernel) ⟨Nat.le_of_ble_eq_true rfl, Nat.le_of_ble_eq_true rfl⟩ (kd_lt kc55 (by decide)) (ce_6 kc55) rfl rfl rfl hl.1 (Nat.le_of_ble_eq_true rfl) dX9_stop_31 ⟨Nat.zero_le _, Nat.zero_le _⟩) (fun σ8 H locs hw hG => ?_)
      refine lv_aload_n hx hb dX9_stop_34 rfl (lv_at hl 1 rfl) ?_
      refine g_get (k := 2) hE hG (kd_lt kc0 (by decide)) (ce_9 kc0) rfl (by decide +kernel) (by decide) (by decide +kernel) rfl rfl dX9_stop_35 ?_
      refine g_get (k := 2) hE hG (kd_lt kc55 (by decide)) (ce_6 kc55) rfl (by decide +kernel) (by decide) (by decide +kernel) rfl rfl dX9_stop_38 ?_
      exact g_iret hE hG hr hlk dX9_stop_41 hw
    · have hw := hw.2 hc6
      refine lv_bipush (v := (-3)) hx hb dX9_stop_23 (by decide) ?_
      exact g_iret hE hG hr hlk dX9_stop_25 hw
  · have hw := hw.2 hc3
    refine lv_iconst (v := (-1)) hx hb dX9_stop_7 (by decide) ?_
    exact g_iret hE hG hr hlk dX9_stop_8 hw

set_option maxHeartbeats 4000000 in
set_option maxRecDepth 100000 in
theorem m_X9_start (l : Launch) (X : wX) {Q : Int32 → St → Prop} {v1 : Int32} {σ : St} (hw : wp_X9_start Q v1 σ) : mI X kcL l yX9_start wsX9_start rm_X9_start [.ref (X.2.1 0), .int v1] σ Q := by
  refine mI.of (cc := cX9_start) (maxL := 2) (ret := (some .int)) (by decide +kernel) rfl (Nat.le_of_ble_eq_true rfl) ?_
  intro A p e s m args below meth c ls hE hr hlk hl hG
  have hx := hE.1.1
  have hb := hE.1.2.1
  unfold wp_X9_start at hw
  have hl : lv_has ls 2 [(0, .ref (X.2.1 0)), (1, .int v1)] := hl
  refine lv_iload_n hx hb dX9_start_0 rfl (lv_at hl 1 rfl) ?_
  refine g_calli hG (g_runS (rm := rm_X9_isSection) (As := [.int v1]) (rest := []) (n := 1) hE hG (m_X9_isSection l X hw _) gX9_start_X9_isSection rfl rfl rfl (by decide +kernel) ⟨Nat.le_of_ble_eq_true rfl, Nat.le_of_ble_eq_true rfl⟩ rfl hl.1 (Nat.le_of_ble_eq_true rfl) dX9_start_1 ⟨Nat.zero_le _, Nat.zero_le _⟩) (fun r1 σ2 H locs hw hG => ?_)
  refine lv_if_ne (tgt := 9) hx hb dX9_start_4 (by decide) (fun hc3 => ?_) (fun hc3 => ?_)
  · have hw := hw.1 hc3
    refine lv_aload_n hx hb dX9_start_9 rfl (lv_at hl 0 rfl) ?_
    refine g_get (k := 2) hE hG (kd_lt kc0 (by decide)) (ce_9 kc0) rfl (by decide +kernel) (by decide) (by decide +kernel) rfl rfl dX9_start_10 ?_
    refine lv_iload_n hx hb dX9_start_13 rfl (lv_at hl 1 rfl) ?_
    refine g_calli hG (g_runV (rm := rm_X6_find) (As := [.int v1]) (rest := []) (n := 1) hE hG (m_X6_find l X hw _) gX9_start_X6_find rfl rfl rfl (by decide +kernel) ⟨Nat.le_of_ble_eq_true rfl, Nat.le_of_ble_eq_true rfl⟩ (kd_lt kc55 (by decide)) (ce_6 kc55) rfl rfl rfl hl.1 (Nat.le_of_ble_eq_true rfl) dX9_start_14 ⟨Nat.zero_le _, Nat.zero_le _⟩) (fun r4 σ5 H locs hw hG => ?_)
    refine lv_iconst (v := (-1)) hx hb dX9_start_17 (by decide) ?_
    refine lv_icmp_eq (tgt := 24) hx hb dX9_start_18 (by decide) (fun hc6 => ?_) (fun hc6 => ?_)
    · have hw := hw.1 hc6
      refine lv_aload_n hx hb dX9_start_24 rfl (lv_at hl 0 rfl) ?_
      refine g_get (k := 2) hE hG (kd_lt kc0 (by decide)) (ce_9 kc0) rfl (by decide +kernel) (by decide) (by decide +kernel) rfl rfl dX9_start_25 ?_
      refine lv_iload_n hx hb dX9_start_28 rfl (lv_at hl 1 rfl) ?_
      refine g_callv hG (g_runV (rm := rm_X6_join) (As := [.int v1]) (rest := []) (n := 1) hE hG (m_X6_join l X hw _) gX9_start_X6_join rfl rfl rfl (by decide +kernel) ⟨Nat.le_of_ble_eq_true rfl, Nat.le_of_ble_eq_true rfl⟩ (kd_lt kc55 (by decide)) (ce_6 kc55) rfl rfl rfl hl.1 (Nat.le_of_ble_eq_true rfl) dX9_start_29 ⟨Nat.zero_le _, Nat.zero_le _⟩) (fun σ8 H locs hw hG => ?_)
      refine lv_aload_n hx hb dX9_start_32 rfl (lv_at hl 0 rfl) ?_
      refine g_get (k := 2) hE hG (kd_lt kc0 (by decide)) (ce_9 kc0) rfl (by decide +kernel) (by decide) (by decide +kernel) rfl rfl dX9_start_33 ?_
      refine g_get (k := 2) hE hG (kd_lt kc55 (by decide)) (ce_6 kc55) rfl (by decide +kernel) (by decide) (by decide +kernel) rfl rfl dX9_start_36 ?_
      exact g_iret hE hG hr hlk dX9_start_39 hw
    · have hw := hw.2 hc6
      refine lv_bipush (v := (-3)) hx hb dX9_start_21 (by decide) ?_
      exact g_iret hE hG hr hlk dX9_start_23 hw
  · have hw := hw.2 hc3
    refine lv_iconst (v := (-1)) hx hb dX9_start_7 (by decide) ?_
    exact g_iret hE hG hr hlk dX9_start_8 hw

