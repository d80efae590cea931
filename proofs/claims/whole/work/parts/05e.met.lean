/-! contracts, by program -/
set_option maxHeartbeats 4000000 in
set_option maxRecDepth 100000 in
theorem m_X9_isJob (l : Launch) (X : wX) {Q : Int32 → St → Prop} {v0 : Int32} {σ : St} (hw : wp_X9_isJob Q v0 σ) : mI X kcL l yX9_isJob wsX9_isJob rm_X9_isJob [.int v0] σ Q := by
  refine mI.of (cc := cX9_isJob) (maxL := 1) (ret := (some .boolean)) (by decide +kernel) rfl (Nat.le_of_ble_eq_true rfl) ?_
  intro A p e s m args below meth c ls hE hr hlk hl hG
  have hx := hE.1.1
  have hb := hE.1.2.1
  unfold wp_X9_isJob at hw
  have hl : lv_has ls 1 [(0, .int v0)] := hl
  refine lv_iload_n hx hb dX9_isJob_0 rfl (lv_at hl 0 rfl) ?_
  refine lv_iconst (v := 0) hx hb dX9_isJob_1 (by decide) ?_
  refine lv_iconst (v := 3) hx hb dX9_isJob_2 (by decide) ?_
  refine g_calli hG (g_runS (rm := rm_X9_isBetween) (As := [.int v0, .int (0 : Int32), .int (3 : Int32)]) (rest := []) (n := 3) hE hG (m_X9_isBetween l X hw _) gX9_isJob_X9_isBetween rfl rfl rfl (by decide +kernel) ⟨Nat.le_of_ble_eq_true rfl, Nat.le_of_ble_eq_true rfl⟩ rfl hl.1 (Nat.le_of_ble_eq_true rfl) dX9_isJob_3 ⟨Nat.zero_le _, Nat.zero_le _⟩) (fun r1 σ2 H locs hw hG => ?_)
  exact g_zret hE hG hr hlk dX9_isJob_6 hw.1 hw.2

set_option maxHeartbeats 4000000 in
set_option maxRecDepth 100000 in
theorem m_X9_job (l : Launch) (X : wX) {Q : Int32 → St → Prop} {v1 : Int32} {v2 : Int32} {σ : St} (hw : wp_X9_job Q v1 v2 σ) : mI X kcL l yX9_job wsX9_job rm_X9_job [.ref (X.2.1 0), .int v1, .int v2] σ Q := by
  refine mI.of (cc := cX9_job) (maxL := 4) (ret := (some .int)) (by decide +kernel) rfl (Nat.le_of_ble_eq_true rfl) ?_
  intro A p e s m args below meth c ls hE hr hlk hl hG
  have hx := hE.1.1
  have hb := hE.1.2.1
  unfold wp_X9_job at hw
  have hl : lv_has ls 4 [(0, .ref (X.2.1 0)), (1, .int v1), (2, .int v2)] := hl
  refine lv_iload_n hx hb dX9_job_0 rfl (lv_at hl 1 rfl) ?_
  refine g_calli hG (g_runS (rm := rm_X9_isSection) (As := [.int v1]) (rest := []) (n := 1) hE hG (m_X9_isSection l X hw _) gX9_job_X9_isSection rfl rfl rfl (by decide +kernel) ⟨Nat.le_of_ble_eq_true rfl, Nat.le_of_ble_eq_true rfl⟩ rfl hl.1 (Nat.le_of_ble_eq_true rfl) dX9_job_1 ⟨Nat.zero_le _, Nat.zero_le _⟩) (fun r1 σ2 H locs hw hG => ?_)
  refine lv_if_eq (tgt := 14) hx hb dX9_job_4 (by decide) (fun hc3 => ?_) (fun hc3 => ?_)
  · have hw := hw.1 hc3
    refine lv_iconst (v := (-1)) hx hb dX9_job_14 (by decide) ?_
    exact g_iret hE hG hr hlk dX9_job_15 hw
  · have hw := hw.2 hc3
    refine lv_iload_n hx hb dX9_job_7 rfl (lv_at hl 2 rfl) ?_
    refine g_calli hG (g_runS (rm := rm_X9_isJob) (As := [.int v2]) (rest := []) (n := 1) hE hG (m_X9_isJob l X hw _) gX9_job_X9_isJob rfl rfl rfl (by decide +kernel) ⟨Nat.le_of_ble_eq_true rfl, Nat.le_of_ble_eq_true rfl⟩ rfl hl.1 (Nat.le_of_ble_eq_true rfl) dX9_job_8 ⟨Nat.zero_le _, Nat.zero_le _⟩) (fun r4 σ5 H locs hw hG => ?_)
    refine lv_if_ne (tgt := 16) hx hb dX9_job_11 (by decide) (fun hc6 => ?_) (fun hc6 => ?_)
    · have hw := hw.1 hc6
      refine lv_aload_n hx hb dX9_job_16 rfl (lv_at hl 0 rfl) ?_
      refine g_get (k := 5) hE hG (kd_lt kc0 (by decide)) (ce_9 kc0) rfl (by decide +kernel) (by decide) (by decide +kernel) rfl rfl dX9_job_17 ?_
      refine lv_iload_n hx hb dX9_job_20 rfl (lv_at hl 1 rfl) ?_
      obtain ⟨hi7, hw⟩ := hw
      refine g_iald (n := 6) hE hG (kd_lt kc78 (by decide)) (ce_int kc78 (by decide) (by decide)) hi7 dX9_job_21 ?_
      refine lv_topi (fun x8 ex8 => ?_)
      have hw := hw x8 ex8
      refine lv_istore_n (lv' := [(3, .int x8), (0, .ref (X.2.1 0)), (1, .int v1), (2, .int v2)]) hx hb dX9_job_22 rfl hl (by decide) rfl (fun ls hl => ?_)
      refine lv_aload_n hx hb dX9_job_23 rfl (lv_at hl 1 rfl) ?_
      refine g_get (k := 5) hE hG (kd_lt kc0 (by decide)) (ce_9 kc0) rfl (by decide +kernel) (by decide) (by decide +kernel) rfl rfl dX9_job_24 ?_
      refine lv_iload_n hx hb dX9_job_27 rfl (lv_at hl 2 rfl) ?_
      refine lv_iload_n hx hb dX9_job_28 rfl (lv_at hl 3 rfl) ?_
      obtain ⟨hi9, hw⟩ := hw
      refine g_iast (n := 6) hE hG (kd_lt kc78 (by decide)) (fun _ => ce_int kc78 (by decide) (by decide)) hi9 dX9_job_29 (fun σ10 H locs eσ10 hG => ?_)
      have hw := hw σ10 eσ10
      refine lv_iload_n hx hb dX9_job_30 rfl (lv_at hl 0 rfl) ?_
      exact g_iret hE hG hr hlk dX9_job_31 hw
    · have hw := hw.2 hc6
      refine lv_iconst (v := (-1)) hx hb dX9_job_14 (by decide) ?_
      exact g_iret hE hG hr hlk dX9_job_15 hw

set_option maxHeartbeats 4000000 in
set_option maxRecDepth 100000 in
theorem m_X9_isColour (l : Launch) (X : wX) {Q : Int32 → St → Prop} {v0 : Int32} {σ : St} (hw : wp_X9_isColour Q v0 σ) : mI X kcL l yX9_isColour wsX9_isColour rm_X9_isColour [.int v0] σ Q := by
  refine mI.of (cc := cX9_isColour) (maxL := 1) (ret := (some .boolean)) (by decide +kernel) rfl (Nat.le_of_ble_eq_true rfl) ?_
  intro A p e s m args below meth c ls hE hr hlk hl hG
  have hx := hE.1.1
  have hb := hE.1.2.1
  unfold wp_X9_isColour at hw
  have hl : lv_has ls 1 [(0, .int v0)] := hl
  refine lv_iload_n hx hb dX9_isColour_0 rfl (lv_at hl 0 rfl) ?_
  refine lv_iconst (v := 0) hx hb dX9_isColour_1 (by decide) ?_
  refine lv_iconst (v := 3) hx hb dX9_isColour_2 (by decide) ?_
  refine g_calli hG (g_runS (rm := rm_X9_isBetween) (As := [.int v0, .int (0 : Int32), .int (3 : Int32)]) (rest := []) (n := 3) hE hG (m_X9_isBetween l X hw _) gX9_isColour_X9_isBetween rfl rfl rfl (by decide +kernel) ⟨Nat.le_of_ble_eq_true rfl, Nat.le_of_ble_eq_true rfl⟩ rfl hl.1 (Nat.le_of_ble_eq_true rfl) dX9_isColour_3 ⟨Nat.zero_le _, Nat.zero_le _⟩) (fun r1 σ2 H locs hw hG => ?_)
  exact g_zret hE hG hr hlk dX9_isColour_6 hw.1 hw.2

set_option maxHeartbeats 4000000 in
set_option maxRecDepth 100000 in
theorem m_X9_aim (l : Launch) (X : wX) {Q : Int32 → St → Prop} {v1 : Int32} {v2 : Int32} {v3 : Int32} {σ : St} (hw : wp_X9_aim Q v1 v2 v3 σ) : mI X kcL l yX9_aim wsX9_aim rm_X9_aim [.ref (X.2.1 0), .int v1, .int v2, .int v3] σ Q := by
  refine mI.of (cc := cX9_aim) (maxL := 4) (ret := (some .int)) (by decide +kernel) rfl (Nat.le_of_ble_eq_true rfl) ?_
  intro A p e s m args below meth c ls hE hr hlk hl hG
  have hx := hE.1.1
  have hb := hE.1.2.1
  unfold wp_X9_aim at hw
  have hl : lv_has ls 4 [(0, .ref (X.2.1 0)), (1, .int v1), (2, .int v2), (3, .int v3)] := hl
  refine lv_iload_n hx hb dX9_aim_0 rfl (lv_at hl 1 rfl) ?_
  refine g_calli hG (g_runS (rm := rm_X9_isJob) (As := [.int v1]) (rest := []) (n := 1) hE hG (m_X9_isJob l X hw _) gX9_aim_X9_isJob rfl rfl rfl (by decide +kernel) ⟨Nat.le_of_ble_eq_true rfl, Nat.le_of_ble_eq_true rfl⟩ rfl hl.1 (Nat.le_of_ble_eq_true rfl) dX9_aim_1 ⟨Nat.zero_le _, Nat.zero_le _⟩) (fun r1 σ2 H locs hw hG => ?_)
  refine lv_if_eq (tgt := 26) hx hb dX9_aim_4 (by decide) (fun hc3 => ?_) (fun hc3 => ?_)
  · have hw := hw.1 hc3
    refine lv_iconst (v := (-1)) hx hb dX9_aim_26 (by decide) ?_
    exact g_iret hE hG hr hlk dX9_aim_27 hw
  · have hw := hw.2 hc3
    refine lv_iload_n hx hb dX9_aim_7 rfl (lv_at hl 2 rfl) ?_
    refine lv_bipush (v := (100)) hx hb dX9_aim_8 (by decide) ?_
    refine lv_sipush (v := (900)) hx hb dX9_aim_10 (by decide) ?_
    refine g_calli hG (g_runS (rm := rm_X9_isBetween) (As := [.int v2, .int (100 : Int32), .int (900 : Int32)]) (rest := []) (n := 3) hE hG (m_X9_isBetween l X hw _) gX9_aim_X9_isBetween rfl rfl rfl (by decide +kernel) ⟨Nat.le_of_ble_eq_true rfl, Nat.le_of_ble_eq_true rfl⟩ rfl hl.1 (Nat.le_of_ble_eq_true rfl) dX9_aim_13 ⟨Nat.zero_le _, Nat.zero_le _⟩) (fun r4 σ5 H locs hw hG => ?_)
    refine lv_if_eq (tgt := 26) hx hb dX9_aim_16 (by decide) (fun hc6 => ?_) (fun hc6 => ?_)
    · have hw := hw.1 hc6
      refine lv_iconst (v := (-1)) hx hb dX9_aim_26 (by decide) ?_
      exact g_iret hE hG hr hlk dX9_aim_27 hw
    · have hw := hw.2 hc6
      refine lv_iload_n hx hb dX9_aim_19 rfl (lv_at hl 3 rfl) ?_
      refine g_calli hG (g_runS (rm := rm_X9_isColour) (As := [.int v3]) (rest := []) (n := 1) hE hG (m_X9_isColour l X hw _) gX9_aim_X9_isColour rfl rfl rfl (by decide +kernel) ⟨Nat.le_of_ble_eq_true rfl, Nat.le_of_ble_eq_true rfl⟩ rfl hl.1 (Nat.le_of_ble_eq_true rfl) dX9_aim_20 ⟨Nat.zero_le _, Nat.zero_le _⟩) (fun r7 σ8 H locs hw hG => ?_)
      refine lv_if_ne (tgt := 28) hx hb dX9_aim_23 (by decide) (fun hc9 => ?_) (fun hc9 => ?_)
      · have hw := hw.1 hc9
        refine lv_aload_n hx hb dX9_aim_28 rfl (lv_at hl 0 rfl) ?_
        refine g_get (k := 6) hE hG (kd_lt kc0 (by decide)) (ce_9 kc0) rfl (by decide +kernel) (by decide) (by decide +kernel) rfl rfl dX9_aim_29 ?_
        refine lv_iload_n hx hb dX9_aim_32 rfl (lv_at hl 1 rfl) ?_
        refine lv_iload_n hx hb dX9_aim_33 rfl (lv_at hl 2 rfl) ?_
        obtain ⟨hi10, hw⟩ := hw
        refine g_iast (n := 4) hE hG (kd_lt kc79 (by decide)) (fun _ => ce_int kc79 (by decide) (by decide)) hi10 dX9_aim_34 (fun σ11 H locs eσ11 hG => ?_)
        have hw := hw σ11 eσ11
        refine lv_aload_n hx hb dX9_aim_35 rfl (lv_at hl 0 rfl) ?_
        refine g_get (k := 7) hE hG (kd_lt kc0 (by decide)) (ce_9 kc0) rfl (by decide +kernel) (by decide) (by decide +kernel) rfl rfl dX9_aim_36 ?_
        refine lv_iload_n hx hb dX9_aim_39 rfl (lv_at hl 1 rfl) ?_
        refine lv_iload_n hx hb dX9_aim_40 rfl (lv_at hl 3 rfl) ?_
        obtain ⟨hi12, hw⟩ := hw
        refine g_iast (n := 4) hE hG (kd_lt kc80 (by decide)) (fun _ => ce_int kc80 (by decide) (by decide)) hi12 dX9_aim_41 (fun σ13 H locs eσ13 hG => ?_)
        have hw := hw σ13 eσ13
        refine lv_iconst (v := 1) hx hb dX9_aim_42 (by decide) ?_
        exact g_iret hE hG hr hlk dX9_aim_43 hw
      · have hw := hw.2 hc9
        refine lv_iconst (v := (-1)) hx hb dX9_aim_26 (by decide) ?_
        exact g_iret hE hG hr hlk dX9_aim_27 hw

set_option maxHeartbeats 4000000 in
set_option maxRecDepth 100000 in
theorem m_X9_glass (l : Launch) (X : wX) {Q : Int32 → St → Prop} {v1 : Int32} {v2 : Int32} {σ : St} (hw : wp_X9_glass Q v1 v2 σ) : mI X kcL l yX9_glass wsX9_glass rm_X9_glass [.ref (X.2.1 0), .int v1, .int v2] σ Q := by
  refine mI.of (cc := cX9_glass) (maxL := 3) (ret := (some .int)) (by decide +kernel) rfl (Nat.le_of_ble_eq_true rfl) ?_
  intro A p e s m args below meth c ls hE hr hlk hl hG
  have hx := hE.1.1
  have hb := hE.1.2.1
  unfold wp_X9_glass at hw
  have hl : lv_has ls 3 [(0, .ref (X.2.1 0)), (1, .int v1), (2, .int v2)] := hl
  refine lv_iload_n hx hb dX9_glass_0 rfl (lv_at hl 1 rfl) ?_
  refine g_calli hG (g_runS (rm := rm_X9_isColour) (As := [.int v1]) (rest := []) (n := 1) hE hG (m_X9_isColour l X hw _) gX9_glass_X9_isColour rfl rfl rfl (by decide +kernel) ⟨Nat.le_of_ble_eq_true rfl, Nat.le_of_ble_eq_true rfl⟩ rfl hl.1 (Nat.le_of_ble_eq_true rfl) dX9_glass_1 ⟨Nat.zero_le _, Nat.zero_le _⟩) (fun r1 σ2 H locs hw hG => ?_)
  refine lv_if_eq (tgt := 17) hx hb dX9_glass_4 (by decide) (fun hc3 => ?_) (fun hc3 => ?_)
  · have hw := hw.1 hc3
    refine lv_iconst (v := (-1)) hx hb dX9_glass_17 (by decide) ?_
    exact g_iret hE hG hr hlk dX9_glass_18 hw
  · have hw := hw.2 hc3
    refine lv_iload_n hx hb dX9_glass_7 rfl (lv_at hl 2 rfl) ?_
    refine lv_iconst (v := 0) hx hb dX9_glass_8 (by decide) ?_
    refine lv_bipush (v := (50)) hx hb dX9_glass_9 (by decide) ?_
    refine g_calli hG (g_runS (rm := rm_X9_isBetween) (As := [.int v2, .int (0 : Int32), .int (50 : Int32)]) (rest := []) (n := 3) hE hG (m_X9_isBetween l X hw _) gX9_glass_X9_isBetween rfl rfl rfl (by decide +kernel) ⟨Nat.le_of_ble_eq_true rfl, Nat.le_of_ble_eq_true rfl⟩ rfl hl.1 (Nat.le_of_ble_eq_true rfl) dX9_glass_11 ⟨Nat.zero_le _, Nat.zero_le _⟩) (fun r4 σ5 H locs hw hG => ?_)
    refine lv_if_ne (tgt := 19) hx hb dX9_glass_14 (by decide) (fun hc6 => ?_) (fun hc6 => ?_)
    · have hw := hw.1 hc6
      refine lv_iload_n hx hb dX9_glass_19 rfl (lv_at hl 1 rfl) ?_
      refine lv_aload_n hx hb dX9_glass_20 rfl (lv_at hl 0 rfl) ?_
      refine g_get (k := 9) hE hG (kd_lt kc0 (by decide)) (ce_9 kc0) rfl (by decide +kernel) (by decide) (by decide +kernel) rfl rfl dX9_glass_21 ?_
      refine lv_icmp_ne (tgt := 30) hx hb dX9_glass_24 (by decide) (fun hc7 => ?_) (fun hc7 => ?_)
      · have hw := hw.1 hc7
        refine lv_aload_n hx hb dX9_glass_30 rfl (lv_at hl 0 rfl) ?_
        refine lv_iload_n hx hb dX9_glass_31 rfl (lv_at hl 1 rfl) ?_
        refine g_put (k := 9) (x := v1) (ty := .int) hE hG (kd_lt kc0 (by decide)) (ce_9 kc0) (by rw [ce_9 kc0]; rfl) rfl (by decide +kernel) tyX9 tyX9_ok nmX9 (by decide) (by decide +kernel) rfl rfl (by decide +kernel) rfl rfl (Nat.le_of_ble_eq_true rfl) dX9_glass_32 (fun σ8 H locs eσ8 hG => ?_)
        have hw := hw σ8 eσ8
        refine lv_aload_n hx hb dX9_glass_35 rfl (lv_at hl 0 rfl) ?_
        refine lv_iload_n hx hb dX9_glass_36 rfl (lv_at hl 2 rfl) ?_
        refine g_put (k := 10) (x := v2) (ty := .int) hE hG (kd_lt kc0 (by decide)) (ce_9 kc0) (by rw [ce_9 kc0]; rfl) rfl (by decide +kernel) tyX9 tyX9_ok nmX9 (by decide) (by decide +kernel) rfl rfl (by decide +kernel) rfl rfl (Nat.le_of_ble_eq_true rfl) dX9_glass_37 (fun σ9 H locs eσ9 hG => ?_)
        have hw := hw σ9 eσ9
        refine lv_iconst (v := 1) hx hb dX9_glass_40 (by decide) ?_
        exact g_iret hE hG hr hlk dX9_glass_41 hw
      · have hw := hw.2 hc7
        refine lv_bipush (v := (-3)) hx hb dX9_glass_27 (by decide) ?_
        exact g_iret hE hG hr hlk dX9_glass_29 hw
    · have hw := hw.2 hc6
      refine lv_iconst (v := (-1)) hx hb dX9_glass_17 (by decide) ?_
      exact g_iret hE hG hr hlk dX9_glass_18 hw

set_option maxHeartbeats 4000000 in
set_option maxRecDepth 100000 in
theorem m_X9_isMould (l : Launch) (X : wX) {Q : Int32 → St → Prop} {v0 : Int32} {σ : St} (hw : wp_X9_isMould Q v0 σ) : mI X kcL l yX9_isMould wsX9_isMould rm_X9_isMould [.int v0] σ Q := by
  refine mI.of (cc := cX9_isMould) (maxL := 1) (ret := (some .boolean)) (by decide +kernel) rfl (Nat.le_of_ble_eq_true rfl) ?_
  intro A p e s m args below meth c ls hE hr hlk hl hG
  have hx := hE.1.1
  have hb := hE.1.2.1
  unfold wp_X9_isMould at hw
  have hl : lv_has ls 1 [(0, .int v0)] := hl
  refine lv_iload_n hx hb dX9_isMould_0 rfl (lv_at hl 0 rfl) ?_
  refine lv_iconst (v := 0) hx hb dX9_isMould_1 (by decide) ?_
  refine lv_bipush (v := (29)) hx hb dX9_isMould_2 (by decide) ?_
  refine g_calli hG (g_runS (rm := rm_X9_isBetween) (As := [.int v0, .int (0 : Int32), .int (29 : Int32)]) (rest := []) (n := 3) hE hG (m_X9_isBetween l X hw _) gX9_isMould_X9_isBetween rfl rfl rfl (by decide +kernel) ⟨Nat.le_of_ble_eq_true rfl, Nat.le_of_ble_eq_true rfl⟩ rfl hl.1 (Nat.le_of_ble_eq_true rfl) dX9_isMould_4 ⟨Nat.zero_le _, Nat.zero_le _⟩) (fun r1 σ2 H locs hw hG => ?_)
  exact g_zret hE hG hr hlk dX9_isMould_7 hw.1 hw.2

set_option maxHeartbeats 4000000 in
set_option maxRecDepth 100000 in
theorem m_X9_mould (l : Launch) (X : wX) {Q : Int32 → St → Prop} {v1 : Int32} {v2 : Int32} {σ : St} (hw : wp_X9_mould Q v1 v2 σ) : mI X kcL l yX9_mould wsX9_mould rm_X9_mould [.ref (X.2.1 0), .int v1, .int v2] σ Q := by
  refine mI.of (cc := cX9_mould) (maxL := 4) (ret := (some .int)) (by decide +kernel) rfl (Nat.le_of_ble_eq_true rfl) ?_
  intro A p e s m args below meth c ls hE hr hlk hl hG
  have hx := hE.1.1
  have hb := hE.1.2.1
  unfold wp_X9_mould at hw
  have hl : lv_has ls 4 [(0, .ref (X.2.1 0)), (1, .int v1), (2, .int v2)] := hl
  refine lv_iload_n hx hb dX9_mould_0 rfl (lv_at hl 1 rfl) ?_
  refine g_calli hG (g_runS (rm := rm_X9_isSection) (As := [.int v1]) (rest := []) (n := 1) hE hG (m_X9_isSection l X hw _) gX9_mould_X9_isSection rfl rfl rfl (by decide +kernel) ⟨Nat.le_of_ble_eq_true rfl, Nat.le_of_ble_eq_true rfl⟩ rfl hl.1 (Nat.le_of_ble_eq_true rfl) dX9_mould_1 ⟨Nat.zero_le _, Nat.zero_le _⟩) (fun r1 σ2 H locs hw hG => ?_)
  refine lv_if_eq (tgt := 14) hx hb dX9_mould_4 (by decide) (fun hc3 => ?_) (fun hc3 => ?_)
  · have hw := hw.1 hc3
    refine lv_iconst (v := (-1)) hx hb dX9_mould_14 (by decide) ?_
    exact g_iret hE hG hr hlk dX9_mould_15 hw
  · have hw := hw.2 hc3
    refine lv_iload_n hx hb dX9_mould_7 rfl (lv_at hl 2 rfl) ?_
    refine g_calli hG (g_runS (rm := rm_X9_isMould) (As := [.int v2]) (rest := []) (n := 1) hE hG (m_X9_isMould l X hw _) gX9_mould_X9_isMould rfl rfl rfl (by decide +kernel) ⟨Nat.le_of_ble_eq_true rfl, Nat.le_of_ble_eq_true rfl⟩ rfl hl.1 (Nat.le_of_ble_eq_true rfl) dX9_mould_8 ⟨Nat.zero_le _, Nat.zero_le _⟩) (fun r4 σ5 H locs hw hG => ?_)
    refine lv_if_ne (tgt := 16) hx hb dX9_mould_11 (by decide) (fun hc6 => ?_) (fun hc6 => ?_)
    · have hw := hw.1 hc6
      refine lv_aload_n hx hb dX9_mould_16 rfl (lv_at hl 0 rfl) ?_
      refine g_get (k := 3) hE hG (kd_lt kc0 (by decide)) (ce_9 kc0) rfl (by decide +kernel) (by decide) (by decide +kernel) rfl rfl dX9_mould_17 ?_
      refine lv_iload_n hx hb dX9_mould_20 rfl (lv_at hl 2 rfl) ?_
      refine g_calli hG (g_runV (rm := rm_X5_sectionOf) (As := [.int v2]) (rest := []) (n := 1) hE hG (m_X5_sectionOf l X hw _) gX9_mould_X5_sectionOf rfl rfl rfl (by decide +kernel) ⟨Nat.le_of_ble_eq_true rfl, Nat.le_of_ble_eq_true rfl⟩ (kd_lt kc57 (by decide)) (ce_5 kc57) rfl rfl rfl hl.1 (Nat.le_of_ble_eq_true rfl) dX9_mould_21 ⟨Nat.zero_le _, Nat.zero_le _⟩) (fun r7 σ8 H locs hw hG => ?_)
      refine lv_iconst (v := (-1)) hx hb dX9_mould_24 (by decide) ?_
      refine lv_icmp_eq (tgt := 31) hx hb dX9_mould_25 (by decide) (fun hc9 => ?_) (fun hc9 => ?_)
      · have hw := hw.1 hc9
        refine lv_aload_n hx hb dX9_mould_31 rfl (lv_at hl 0 rfl) ?_
        refine g_get (k := 3) hE hG (kd_lt kc0 (by decide)) (ce_9 kc0) rfl (by decide +kernel) (by decide) (by decide +kernel) rfl rfl dX9_mould_32 ?_
        refine g_get (k := 5) hE hG (kd_lt kc57 (by decide)) (ce_5 kc57) rfl (by decide +kernel) (by decide) (by decide +kernel) rfl rfl dX9_mould_35 ?_
        refine lv_iload_n hx hb dX9_mould_38 rfl (lv_at hl 1 rfl) ?_
        obtain ⟨hi10, hw⟩ := hw
        refine g_iald (n := 6) hE hG (kd_lt kc63 (by decide)) (ce_int kc63 (by decide) (by decide)) hi10 dX9_mould_39 ?_
        refine lv_topi (fun x11 ex11 => ?_)
        have hw := hw x11 ex11
        refine lv_istore_n (lv' := [(3, .int x11), (0, .ref (X.2.1 0)), (1, .int v1), (2, .int v2)]) hx hb dX9_mould_40 rfl hl (by decide) rfl (fun ls hl => ?_)
        refine lv_aload_n hx hb dX9_mould_41 rfl (lv_at hl 1 rfl) ?_
        refine g_get (k := 3) hE hG (kd_lt kc0 (by decide)) (ce_9 kc0) rfl (by decide +kernel) (by decide) (by decide +kernel) rfl rfl dX9_mould_42 ?_
        refine g_get (k := 5) hE hG (kd_lt kc57 (by decide)) (ce_5 kc57) rfl (by decide +kernel) (by decide) (by decide +kernel) rfl rfl dX9_mould_45 ?_
        refine lv_iload_n hx hb dX9_mould_48 rfl (lv_at hl 2 rfl) ?_
        refine lv_iload_n hx hb dX9_mould_49 rfl (lv_at hl 3 rfl) ?_
        obtain ⟨hi12, hw⟩ := hw
        refine g_iast (n := 6) hE hG (kd_lt kc63 (by decide)) (fun _ => ce_int kc63 (by decide) (by decide)) hi12 dX9_mould_50 (fun σ13 H locs eσ13 hG => ?_)
        have hw := hw σ13 eσ13
        refine lv_iload_n hx hb dX9_mould_51 rfl (lv_at hl 0 rfl) ?_
        exact g_iret hE hG hr hlk dX9_mould_52 hw
      · have hw := hw.2 hc9
        refine lv_bipush (v := (-3)) hx hb dX9_mould_28 (by decide) ?_
        exact g_iret hE hG hr hlk dX9_mould_30 hw
    · have hw := hw.2 hc6
      refine lv_iconst (v := (-1)) hx hb dX9_mould_14 (by decide) ?_
      exact g_iret hE hG hr hlk dX9_mould_15 hw

set_option maxHeartbeats 4000000 in
set_option maxRecDepth 100000 in
theorem m_X9_swab (l : Launch) (X : wX) {Q : Int32 → St → Prop} {v1 : Int32} {σ : St} (hw : wp_X9_swab Q v1 σ) : mI X kcL l yX9_swab wsX9_swab rm_X9_swab [.ref (X.2.1 0), .int v1] σ Q := by
  refine mI.of (cc := cX9_swab) (maxL := 3) (ret := (some .int)) (by decide +kernel) rfl (Nat.le_of_ble_eq_true rfl) ?_
  intro A p e s m args below meth c ls hE hr hlk hl hG
  have hx := hE.1.1
  have hb := hE.1.2.1
  unfold wp_X9_swab at hw
  have hl : lv_has ls 3 [(0, .ref (X.2.1 0)), (1, .int v1)] := hl
  refine lv_iload_n hx hb dX9_swab_0 rfl (lv_at hl 1 rfl) ?_
  refine g_calli hG (g_runS (rm := rm_X9_isMould) (As := [.int v1]) (rest := []) (n := 1) hE hG (m_X9_isMould l X hw _) gX9_swab_X9_isMould rfl rfl rfl (by decide +kernel) ⟨Nat.le_of_ble_eq_true rfl, Nat.le_of_ble_eq_true rfl⟩ rfl hl.1 (Nat.le_of_ble_eq_true rfl) dX9_swab_1 ⟨Nat.zero_le _, Nat.zero_le _⟩) (fun r1 σ2 H locs hw hG => ?_)
  refine lv_if_ne (tgt := 9) hx hb dX9_swab_4 (by decide) (fun hc3 => ?_) (fun hc3 => ?_)
  · have hw := hw.1 hc3
    refine lv_aload_n hx hb dX9_swab_9 rfl (lv_at hl 0 rfl) ?_
    refine g_get (k := 3) hE hG (kd_lt kc0 (by decide)) (ce_9 kc0) rfl (by decide +kernel) (by decide) (by decide +kernel) rfl rfl dX9_swab_10 ?_
    refine g_get (k := 1) hE hG (kd_lt kc57 (by decide)) (ce_5 kc57) rfl (by decide +kernel) (by decide) (by decide +kernel) rfl rfl dX9_swab_13 ?_
    refine lv_iload_n hx hb dX9_swab_16 rfl (lv_at hl 1 rfl) ?_
    obtain ⟨hi4, hw⟩ := hw
    refine g_iald (n := 30) hE hG (kd_lt kc59 (by decide)) (ce_int kc59 (by decide) (by decide)) hi4 dX9_swab_17 ?_
    refine lv_topi (fun x5 ex5 => ?_)
    have hw := hw x5 ex5
    refine lv_istore_n (lv' := [(2, .int x5), (0, .ref (X.2.1 0)), (1, .int v1)]) hx hb dX9_swab_18 rfl hl (by decide) rfl (fun ls hl => ?_)
    refine lv_aload_n hx hb dX9_swab_19 rfl (lv_at hl 1 rfl) ?_
    refine g_get (k := 3) hE hG (kd_lt kc0 (by decide)) (ce_9 kc0) rfl (by decide +kernel) (by decide) (by decide +kernel) rfl rfl dX9_swab_20 ?_
    refine g_get (k := 1) hE hG (kd_lt kc57 (by decide)) (ce_5 kc57) rfl (by decide +kernel) (by decide) (by decide +kernel) rfl rfl dX9_swab_23 ?_
    refine lv_iload_n hx hb dX9_swab_26 rfl (lv_at hl 2 rfl) ?_
    refine lv_iconst (v := 0) hx hb dX9_swab_27 (by decide) ?_
    obtain ⟨hi6, hw⟩ := hw
    refine g_iast (n := 30) hE hG (kd_lt kc59 (by decide)) (fun _ => ce_int kc59 (by decide) (by decide)) hi6 dX9_swab_28 (fun σ7 H locs eσ7 hG => ?_)
    have hw := hw σ7 eσ7
    refine lv_iload_n hx hb dX9_swab_29 rfl (lv_at hl 0 rfl) ?_
    exact g_iret hE hG hr hlk dX9_swab_30 hw
  · have hw := hw.2 hc3
    refine lv_iconst (v := (-1)) hx hb dX9_swab_7 (by decide) ?_
    exact g_iret hE hG hr hlk dX9_swab_8 hw

set_option maxHeartbeats 4000000 in
set_option maxRecDepth 100000 in
theorem m_X9_repair (l : Launch) (X : wX) {Q : Int32 → St → Prop} {v1 : Int32} {σ : St} (hw : wp_X9_repair Q v1 σ) : mI X kcL l yX9_repair wsX9_repair rm_X9_repair [.ref (X.2.1 0), .int v1] σ Q := by
  refine mI.of (cc := cX9_repair) (maxL := 3) (ret := (some .int)) (by decide +kernel) rfl (Nat.le_of_ble_eq_true rfl) ?_
  intro A p e s m args below meth c ls hE hr hlk hl hG
  have hx := hE.1.1
  have hb := hE.1.2.1
  unfold wp_X9_repair at hw
  have hl : lv_has ls 3 [(0, .ref (X.2.1 0)), (1, .int v1)] := hl
  refine lv_iload_n hx hb dX9_repair_0 rfl (lv_at hl 1 rfl) ?_
  refine g_calli hG (g_runS (rm := rm_X9_isMould) (As := [.int v1]) (rest := []) (n := 1) hE hG (m_X9_isMould l X hw _) gX9_repair_X9_isMould rfl rfl rfl (by decide +kernel) ⟨Nat.le_of_ble_eq_true rfl, Nat.le_of_ble_eq_true rfl⟩ rfl hl.1 (Nat.le_of_ble_eq_true rfl) dX9_repair_1 ⟨Nat.zero_le _, Nat.zero_le _⟩) (fun r1 σ2 H locs hw hG => ?_)
  refine lv_if_ne (tgt := 9) hx hb dX9_repair_4 (by decide) (fun hc3 => ?_) (fun hc3 => ?_)
  · have hw := hw.1 hc3
    refine lv_aload_n hx hb dX9_repair_9 rfl (lv_at hl 0 rfl) ?_
    refine g_get (k := 3) hE hG (kd_lt kc0 (by decide)) (ce_9 kc0) rfl (by decide +kernel) (by decide) (by decide +kernel) rfl rfl dX9_repair_10 ?_
    refine g_get (k := 0) hE hG (kd_lt kc57 (by decide)) (ce_5 kc57) rfl (by decide +kernel) (by decide) (by decide +kernel) rfl rfl dX9_repair_13 ?_
    refine lv_iload_n hx hb dX9_repair_16 rfl (lv_at hl 1 rfl) ?_
    obtain ⟨hi4, hw⟩ := hw
    refine g_iald (n := 30) hE hG (kd_lt kc58 (by decide)) (ce_int kc58 (by decide) (by decide)) hi4 dX9_repair_17 ?_
    refine lv_topi (fun x5 ex5 => ?_)
    have hw := hw x5 ex5
    refine lv_istore_n (lv' := [(2, .int x5), (0, .ref (X.2.1 0)), (1, .int v1)]) hx hb dX9_repair_18 rfl hl (by decide) rfl (fun ls hl => ?_)
    refine lv_aload_n hx hb dX9_repair_19 rfl (lv_at hl 1 rfl) ?_
    refine g_get (k := 3) hE hG (kd_lt kc0 (by decide)) (ce_9 kc0) rfl (by decide +kernel) (by decide) (by decide +kernel) rfl rfl dX9_repair_20 ?_
    refine lv_iload_n hx hb dX9_repair_23 rfl (lv_at hl 2 rfl) ?_
    refine g_callv hG (g_runV (rm := rm_X5_makeNew) (As := [.int v1]) (rest := []) (n := 1) hE hG (m_X5_makeNew l X hw _) gX9_repair_X5_makeNew rfl rfl rfl (by decide +kernel) ⟨Nat.le_of_ble_eq_true rfl, Nat.le_of_ble_eq_true rfl⟩ (kd_lt kc57 (by decide)) (ce_5 kc57) rfl rfl rfl hl.1 (Nat.le_of_ble_eq_true rfl) dX9_repair_24 ⟨Nat.zero_le _, Nat.zero_le _⟩) (fun σ7 H locs hw hG => ?_)
    refine lv_iload_n hx hb dX9_repair_27 rfl (lv_at hl 0 rfl) ?_
    exact g_iret hE hG hr hlk dX9_repair_28 hw
  · have hw := hw.2 hc3
    refine lv_iconst (v := (-1)) hx hb dX9_repair_7 (by decide) ?_
    exact g_iret hE hG hr hlk dX9_repair_8 hw

set_option maxHeartbeats 4000000 in
set_option maxRecDepth 100000 in
theorem b_X9_pull_27 {p : Program} {l : Launch} {e : Env} {s : State} {m : MethodId} {args : Array Value} {below : List Frame} {meth : Method} {c : Code} {X : wX} {A : Nat → Prop} {H : Heap} {locs : List Loc} {ls : Array Slot} {σ : St} (hE : eV p m c cX9_pull 4 s args wsX9_pull RX9 X) (hr : meth.sig.returnType = (some .int)) (hlk : meth.locks = false) {Q : Int32 → St → Prop} {v1 : Int32} {v2 : Int32} {z0 : Int32} (hw : wb_X9_pull_27 Q v1 v2 z0 σ) (hG : gW X kcL A s.heap σ H locs) (hl : lv_has ls 4 [(0, .ref (X.2.1 0)), (1, .int v1), (2, .int v2)]) : W p l e rm_X9_pull s m args below meth c H locs 0 0 (zI X kcL below args s A Q) (F0 m 27 ls [.int z0]) := by
  have hx := hE.1.1
  have hb := hE.1.2.1
  unfold wb_X9_pull_27 at hw
  refine lv_istore_n (lv' := [(3, .int z0), (0, .ref (X.2.1 0)), (1, .int v1), (2, .int v2)]) hx hb dX9_pull_27 rfl hl (by decide) rfl (fun ls hl => ?_)
  refine lv_aload_n hx hb dX9_pull_28 rfl (lv_at hl 1 rfl) ?_
  refine g_get (k := 3) hE hG (kd_lt kc0 (by decide)) (ce_9 kc0) rfl (by decide +kernel) (by decide) (by decide +kernel) rfl rfl dX9_pull_29 ?_
  refine g_get (k := 2) hE hG (kd_lt kc57 (by decide)) (ce_5 kc57) rfl (by decide +kernel) (by decide) (by decide +kernel) rfl rfl dX9_pull_32 ?_
  refine lv_iload_n hx hb dX9_pull_35 rfl (lv_at hl 2 rfl) ?_
  refine lv_iload_n hx hb dX9_pull_36 rfl (lv_at hl 3 rfl) ?_
  obtain ⟨hi6, hw⟩ := hw
  refine g_zast (n := 30) hE hG (kd_lt kc60 (by decide)) (fun _ => ce_230 kc60) hi6 dX9_pull_37 (fun σ7 H locs eσ7 hG => ?_)
  have hw := hw σ7 eσ7
  refine lv_iload_n hx hb dX9_pull_38 rfl (lv_at hl 0 rfl) ?_
  refine g_calli hG (g_runS (rm := rm_X9_asNumber) (As := [.int z0]) (rest := []) (n := 1) hE hG (m_X9_asNumber l X hw _) gX9_pull_X9_asNumber rfl rfl rfl (by decide +kernel) ⟨Nat.le_of_ble_eq_true rfl, Nat.le_of_ble_eq_true rfl⟩ rfl hl.1 (Nat.le_of_ble_eq_true rfl) dX9_pull_39 ⟨Nat.zero_le _, Nat.zero_le _⟩) (fun r8 σ9 H locs hw hG => ?_)
  exact g_iret hE hG hr hlk dX9_pull_42 hw

set_option maxHeartbeats 4000000 in
set_option maxRecDepth 100000 in
theorem m_X9_pull (l : Launch) (X : wX) {Q : Int32 → St → Prop} {v1 : Int32} {v2 : Int32} {σ : St} (hw : wp_X9_pull Q v1 v2 σ) : mI X kcL l yX9_pull wsX9_pull rm_X9_pull [.ref (X.2.1 0), .int v1, .int v2] σ Q := by
  refine mI.of (cc := cX9_pull) (maxL := 4) (ret := (some .int)) (by decide +kernel) rfl (Nat.le_of_ble_eq_true rfl) ?_
  intro A p e s m args below meth c ls hE hr hlk hl hG
  have hx := hE.1.1
  have hb := hE.1.2.1
  unfold wp_X9_pull at hw
  have hl : lv_has ls 4 [(0, .ref (X.2.1 0)), (1, .int v1), (2, .int v2)] := hl
  refine lv_iload_n hx hb dX9_pull_0 rfl (lv_at hl 1 rfl) ?_
  refine g_calli hG (g_runS (rm := rm_X9_isMould) (As := [.int v1]) (rest := []) (n := 1) hE hG (m_X9_isMould l X hw _) gX9_pull_X9_isMould rfl rfl rfl (by decide +kernel) ⟨Nat.le_of_ble_eq_true rfl, Nat.le_of_ble_eq_true rfl⟩ rfl hl.1 (Nat.le_of_ble_eq_true rfl) dX9_pull_1 ⟨Nat.zero_le _, Nat.zero_le _⟩) (fun r1 σ2 H locs hw hG => ?_)
  refine lv_if_ne (tgt := 9) hx hb dX9_pull_4 (by decide) (fun hc3 => ?_) (fun hc3 => ?_)
  · have hw := hw.1 hc3
    refine lv_aload_n hx hb dX9_pull_9 rfl (lv_at hl 0 rfl) ?_
    refine g_get (k := 3) hE hG (kd_lt kc0 (by decide)) (ce_9 kc0) rfl (by decide +kernel) (by decide) (by decide +kernel) rfl rfl dX9_pull_10 ?_
    refine g_get (k := 2) hE hG (kd_lt kc57 (by decide)) (ce_5 kc57) rfl (by decide +kernel) (by decide) (by decide +kernel) rfl rfl dX9_pull_13 ?_
    refine lv_iload_n hx hb dX9_pull_16 rfl (lv_at hl 1 rfl) ?_
    obtain ⟨hi4, hw⟩ := hw
    refine g_zald (n := 30) hE hG (kd_lt kc60 (by decide)) (ce_230 kc60) hi4 dX9_pull_17 ?_
    refine lv_iload_n hx hb dX9_pull_18 rfl (lv_at hl 2 rfl) ?_
    refine lv_icmp_eq (tgt := 26) hx hb dX9_pull_19 (by decide) (fun hc5 => ?_) (fun hc5 => ?_)
    · have hw := hw.1 hc5
      refine lv_iconst (v := 0) hx hb dX9_pull_26 (by decide) ?_
      exact b_X9_pull_27 hE hr hlk hw hG (lv_sub hl [0, 1, 2] rfl)
    · have hw := hw.2 hc5
      refine lv_iconst (v := 1) hx hb dX9_pull_22 (by decide) ?_
      refine lv_goto (tgt := 27) hx hb dX9_pull_23 (by decide) ?_
      exact b_X9_pull_27 hE hr hlk hw hG (lv_sub hl [0, 1, 2] rfl)
  · have hw := hw.2 hc3
    refine lv_iconst (v := (-1)) hx hb dX9_pull_7 (by decide) ?_
    exact g_iret hE hG hr hlk dX9_pull_8 hw

set_option maxHeartbeats 4000000 in
set_option maxRecDepth 100000 in
theorem b_X9_rule_29 {p : Program} {l : Launch} {e : Env} {s : State} {m : MethodId} {args : Array Value} {below : List Frame} {meth : Method} {c : Code} {X : wX} {A : Nat → Prop} {H : Heap} {locs : List Loc} {ls : Array Slot} {σ : St} (hE : eV p m c cX9_rule 4 s args wsX9_rule RX9 X) (hr : meth.sig.returnType = (some .int)) (hlk : meth.locks = false) {Q : Int32 → St → Prop} {v1 : Int32} {v2 : Int32} (hw : wb_X9_rule_29 Q v1 v2 σ) (hG : gW X kcL A s.heap σ H locs) (hl : lv_has ls 4 [(0, .ref (X.2.1 0)), (1, .int v1), (2, .int v2)]) : W p l e rm_X9_rule s m args below meth c H locs 0 0 (zI X kcL below args s A Q) (F0 m 29 ls []) := by
  have hx := hE.1.1
  have hb := hE.1.2.1
  unfold wb_X9_rule_29 at hw
  refine lv_iload_n hx hb dX9_rule_29 rfl (lv_at hl 1 rfl) ?_
  refine lv_iconst (v := 1) hx hb dX9_rule_30 (by decide) ?_
  refine lv_icmp_ne (tgt := 57) hx hb dX9_rule_31 (by decide) (fun hc2 => ?_) (fun hc2 => ?_)
  · have hw := hw.1 hc2
    refine lv_sipush (v := (-1000)) hx hb dX9_rule_57 (by decide) ?_
    exact g_iret hE hG hr hlk dX9_rule_60 hw
  · have hw := hw.2 hc2
    refine lv_iload_n hx hb dX9_rule_34 rfl (lv_at hl 2 rfl) ?_
    refine lv_iconst (v := 1) hx hb dX9_rule_35 (by decide) ?_
    refine lv_sipush (v := (1000)) hx hb dX9_rule_36 (by decide) ?_
    refine g_calli hG (g_runS (rm := rm_X9_isBetween) (As := [.int v2, .int (1 : Int32), .int (1000 : Int32)]) (rest := []) (n := 3) hE hG (m_X9_isBetween l X hw _) gX9_rule_X9_isBetween rfl rfl rfl (by decide +kernel) ⟨Nat.le_of_ble_eq_true rfl, Nat.le_of_ble_eq_true rfl⟩ rfl hl.1 (Nat.le_of_ble_eq_true rfl) dX9_rule_39 ⟨Nat.zero_le _, Nat.zero_le _⟩) (fun r3 σ4 H locs hw hG => ?_)
    refine lv_if_eq (tgt := 57) hx hb dX9_rule_42 (by decide) (fun hc5 => ?_) (fun hc5 => ?_)
    · have hw := hw.1 hc5
      refine lv_sipush (v := (-1000)) hx hb dX9_rule_57 (by decide) ?_
      exact g_iret hE hG hr hlk dX9_rule_60 hw
    · have hw := hw.2 hc5
      refine lv_aload_n hx hb dX9_rule_45 rfl (lv_at hl 0 rfl) ?_
      refine g_get (k := 13) hE hG (kd_lt kc0 (by decide)) (ce_9 kc0) rfl (by decide +kernel) (by decide) (by decide +kernel) rfl rfl dX9_rule_46 ?_
      refine lv_topi (fun x6 ex6 => ?_)
      have hw := hw x6 ex6
      refine lv_istore_n (lv' := [(3, .int x6), (0, .ref (X.2.1 0)), (1, .int v1), (2, .int v2)]) hx hb dX9_rule_49 rfl hl (by decide) rfl (fun ls hl => ?_)
      refine lv_aload_n hx hb dX9_rule_50 rfl (lv_at hl 1 rfl) ?_
      refine lv_iload_n hx hb dX9_rule_51 rfl (lv_at hl 3 rfl) ?_
      refine g_put (k := 13) (x := v2) (ty := .int) hE hG (kd_lt kc0 (by decide)) (ce_9 kc0) (by rw [ce_9 kc0]; rfl) rfl (by decide +kernel) tyX9 tyX9_ok nmX9 (by decide) (by decide +kernel) rfl rfl (by decide +kernel) rfl rfl (Nat.le_of_ble_eq_true rfl) dX9_rule_52 (fun σ7 H locs eσ7 hG => ?_)
      have hw := hw σ7 eσ7
      refine lv_iload_n hx hb dX9_rule_55 rfl (lv_at hl 0 rfl) ?_
      exact g_iret hE hG hr hlk dX9_rule_56 hw

set_option maxHeartbeats 4000000 in
set_option maxRecDepth 100000 in
theorem m_X9_rule (l : Launch) (X : wX) {Q : Int32 → St → Prop} {v1 : Int32} {v2 : Int32} {σ : St} (hw : wp_X9_rule Q v1 v2 σ) : mI X kcL l yX9_rule wsX9_rule rm_X9_rule [.ref (X.2.1 0), .int v1, .int v2] σ Q := by
  refine mI.of (cc := cX9_rule) (maxL := 4) (ret := (some .int)) (by decide +kernel) rfl (Nat.le_of_ble_eq_true rfl) ?_
  intro A p e s m args below meth c ls hE hr hlk hl hG
  have hx := hE.1.1
  have hb := hE.1.2.1
  unfold wp_X9_rule at hw
  have hl : lv_has ls 4 [(0, .ref (X.2.1 0)), (1, .int v1), (2, .int v2)] := hl
  refine lv_iload_n hx hb dX9_rule_0 rfl (lv_at hl 1 rfl) ?_
  refine lv_if_ne (tgt := 29) hx hb dX9_rule_1 (by decide) (fun hc1 => ?_) (fun hc1 => ?_)
  · have hw := hw.1 hc1
    exact b_X9_rule_29 hE hr hlk hw hG (lv_sub hl [0, 1, 2] rfl)
  · have hw := hw.2 hc1
    refine lv_iload_n hx hb dX9_rule_4 rfl (lv_at hl 2 rfl) ?_
    refine lv_sipush (v := (-200)) hx hb dX9_rule_5 (by decide) ?_
    refine lv_sipush (v := (200)) hx hb dX9_rule_8 (by decide) ?_
    refine g_calli hG (g_runS (rm := rm_X9_isBetween) (As := [.int v2, .int (-200 : Int32), .int (200 : Int32)]) (rest := []) (n := 3) hE hG (m_X9_isBetween l X hw _) gX9_rule_X9_isBetween rfl rfl rfl (by decide +kernel) ⟨Nat.le_of_ble_eq_true rfl, Nat.le_of_ble_eq_true rfl⟩ rfl hl.1 (Nat.le_of_ble_eq_true rfl) dX9_rule_11 ⟨Nat.zero_le _, Nat.zero_le _⟩) (fun r8 σ9 H locs hw hG => ?_)
    refine lv_if_eq (tgt := 29) hx hb dX9_rule_14 (by decide) (fun hc10 => ?_) (fun hc10 => ?_)
    · have hw := hw.1 hc10
      exact b_X9_rule_29 hE hr hlk hw hG (lv_sub hl [0, 1, 2] rfl)
    · have hw := hw.2 hc10
      refine lv_aload_n hx hb dX9_rule_17 rfl (lv_at hl 0 rfl) ?_
      refine g_get (k := 12) hE hG (kd_lt kc0 (by decide)) (ce_9 kc0) rfl (by decide +kernel) (by decide) (by decide +kernel) rfl rfl dX9_rule_18 ?_
      refine lv_topi (fun x11 ex11 => ?_)
      have hw := hw x11 ex11
      refine lv_istore_n (lv' := [(3, .int x11), (0, .ref (X.2.1 0)), (1, .int v1), (2, .int v2)]) hx hb dX9_rule_21 rfl hl (by decide) rfl (fun ls hl => ?_)
      refine lv_aload_n hx hb dX9_rule_22 rfl (lv_at hl 1 rfl) ?_
      refine lv_iload_n hx hb dX9_rule_23 rfl (lv_at hl 3 rfl) ?_
      refine g_put (k := 12) (x := v2) (ty := .int) hE hG (kd_lt kc0 (by decide)) (ce_9 kc0) (by rw [ce_9 kc0]; rfl) rfl (by decide +kernel) tyX9 tyX9_ok nmX9 (by decide) (by decide +kernel) rfl rfl (by decide +kernel) rfl rfl (Nat.le_of_ble_eq_true rfl) dX9_rule_24 (fun σ12 H locs eσ12 hG => ?_)
      have hw := hw σ12 eσ12
      refine lv_iload_n hx hb dX9_rule_27 rfl (lv_at hl 0 rfl) ?_
      exact g_iret hE hG hr hlk dX9_rule_28 hw

set_option maxHeartbeats 4000000 in
set_option maxRecDepth 100000 in
theorem m_X9_book (l : Launch) (X : wX) {Q : Int32 → St → Prop} {v1 : Int32} {v2 : Int32} {σ : St} (hw : wp_X9_book Q v1 v2 σ) : mI X kcL l yX9_book wsX9_book rm_X9_book [.ref (X.2.1 0), .int v1, .int v2] σ Q := by
  refine mI.of (cc := cX9_book) (maxL := 3) (ret := (some .int)) (by decide +kernel) rfl (Nat.le_of_ble_eq_true rfl) ?_
  intro A p e s m args below meth c ls hE hr hlk hl hG
  have hx := hE.1.1
  have hb := hE.1.2.1
  unfold wp_X9_book at hw
  have hl : lv_has ls 3 [(0, .ref (X.2.1 0)), (1, .int v1), (2, .int v2)] := hl
  refine lv_iload_n hx hb dX9_book_0 rfl (lv_at hl 1 rfl) ?_
  refine g_calli hG (g_runS (rm := rm_X9_isMould) (As := [.int v1]) (rest := []) (n := 1) hE hG (m_X9_isMould l X hw _) gX9_book_X9_isMould rfl rfl rfl (by decide +kernel) ⟨Nat.le_of_ble_eq_true rfl, Nat.le_of_ble_eq_true rfl⟩ rfl hl.1 (Nat.le_of_ble_eq_true rfl) dX9_book_1 ⟨Nat.zero_le _, Nat.zero_le _⟩) (fun r1 σ2 H locs hw hG => ?_)
  refine lv_if_ne (tgt := 9) hx hb dX9_book_4 (by decide) (fun hc3 => ?_) (fun hc3 => ?_)
  · have hw := hw.1 hc3
    refine lv_iload_n hx hb dX9_book_9 rfl (lv_at hl 2 rfl) ?_
    by_cases hs5 : v2 = (0 : Int32)
    · refine lv_tableIn (tgt := 48) hx hb dX9_book_10 (by rw [hs5]; decide) (by rw [hs5]; decide) (by rw [hs5]; rfl) (by decide) ?_
      have hw := hw.1 hs5
      refine lv_aload_n hx hb dX9_book_48 rfl (lv_at hl 0 rfl) ?_
      refine g_get (k := 3) hE hG (kd_lt kc0 (by decide)) (ce_9 kc0) rfl (by decide +kernel) (by decide) (by decide +kernel) rfl rfl dX9_book_49 ?_
      refine g_get (k := 0) hE hG (kd_lt kc57 (by decide)) (ce_5 kc57) rfl (by decide +kernel) (by decide) (by decide +kernel) rfl rfl dX9_book_52 ?_
      refine lv_iload_n hx hb dX9_book_55 rfl (lv_at hl 1 rfl) ?_
      obtain ⟨hi4, hw⟩ := hw
      refine g_iald (n := 30) hE hG (kd_lt kc58 (by decide)) (ce_int kc58 (by decide) (by decide)) hi4 dX9_book_56 ?_
      exact g_iret hE hG hr hlk dX9_book_57 hw
    · skip
      by_cases hs7 : v2 = (1 : Int32)
      · refine lv_tableIn (tgt := 58) hx hb dX9_book_10 (by rw [hs7]; decide) (by rw [hs7]; decide) (by rw [hs7]; rfl) (by decide) ?_
        have hw := hw.2.1 hs7
        refine lv_aload_n hx hb dX9_book_58 rfl (lv_at hl 0 rfl) ?_
        refine g_get (k := 3) hE hG (kd_lt kc0 (by decide)) (ce_9 kc0) rfl (by decide +kernel) (by decide) (by decide +kernel) rfl rfl dX9_book_59 ?_
        refine g_get (k := 1) hE hG (kd_lt kc57 (by decide)) (ce_5 kc57) rfl (by decide +kernel) (by decide) (by decide +kernel) rfl rfl dX9_book_62 ?_
        refine lv_iload_n hx hb dX9_book_65 rfl (lv_at hl 1 rfl) ?_
        obtain ⟨hi6, hw⟩ := hw
        refine g_iald (n := 30) hE hG (kd_lt kc59 (by decide)) (ce_int kc59 (by decide) (by decide)) hi6 dX9_book_66 ?_
        exact g_iret hE hG hr hlk dX9_book_67 hw
      · skip
        by_cases hs11 : v2 = (2 : Int32)
        · refine lv_tableIn (tgt := 68) hx hb dX9_book_10 (by rw [hs11]; decide) (by rw [hs11]; decide) (by rw [hs11]; rfl) (by decide) ?_
          have hw := hw.2.2.1 hs11
          refine lv_aload_n hx hb dX9_book_68 rfl (lv_at hl 0 rfl) ?_
          refine g_get (k := 3) hE hG (kd_lt kc0 (by decide)) (ce_9 kc0) rfl (by decide +kernel) (by decide) (by decide +kernel) rfl rfl dX9_book_69 ?_
          refine g_get (k := 2) hE hG (kd_lt kc57 (by decide)) (ce_5 kc57) rfl (by decide +kernel) (by decide) (by decide +kernel) rfl rfl dX9_book_72 ?_
          refine lv_iload_n hx hb dX9_book_75 rfl (lv_at hl 1 rfl) ?_
          obtain ⟨hi8, hw⟩ := hw
          refine g_zald (n := 30) hE hG (kd_lt kc60 (by decide)) (ce_230 kc60) hi8 dX9_book_76 ?_
          refine g_calli hG (g_runS (rm := rm_X9_asNumber) (As := [.int (σ2 60 v1.toNatClampNeg)]) (rest := []) (n := 1) hE hG (m_X9_asNumber l X hw _) gX9_book_X9_asNumber rfl rfl rfl (by decide +kernel) ⟨Nat.le_of_ble_eq_true rfl, Nat.le_of_ble_eq_true rfl⟩ rfl hl.1 (Nat.le_of_ble_eq_true rfl) dX9_book_77 ⟨Nat.zero_le _, Nat.zero_le _⟩) (fun r9 σ10 H locs hw hG => ?_)
          exact g_iret hE hG hr hlk dX9_book_80 hw
        · skip
          by_cases hs13 : v2 = (3 : Int32)
          · refine lv_tableIn (tgt := 81) hx hb dX9_book_10 (by rw [hs13]; decide) (by rw [hs13]; decide) (by rw [hs13]; rfl) (by decide) ?_
            have hw := hw.2.2.2.1 hs13
            refine lv_aload_n hx hb dX9_book_81 rfl (lv_at hl 0 rfl) ?_
            refine g_get (k := 3) hE hG (kd_lt kc0 (by decide)) (ce_9 kc0) rfl (by decide +kernel) (by decide) (by decide +kernel) rfl rfl dX9_book_82 ?_
            refine g_get (k := 3) hE hG (kd_lt kc57 (by decide)) (ce_5 kc57) rfl (by decide +kernel) (by decide) (by decide +kernel) rfl rfl dX9_book_85 ?_
            refine lv_iload_n hx hb dX9_book_88 rfl (lv_at hl 1 rfl) ?_
            obtain ⟨hi12, hw⟩ := hw
            refine g_iald (n := 30) hE hG (kd_lt kc61 (by decide)) (ce_int kc61 (by decide) (by decide)) hi12 dX9_book_89 ?_
            exact g_iret hE hG hr hlk dX9_book_90 hw
          · skip
            by_cases hs15 : v2 = (4 : Int32)
            · refine lv_tableIn (tgt := 91) hx hb dX9_book_10 (by rw [hs15]; decide) (by rw [hs15]; decide) (by rw [hs15]; rfl) (by decide) ?_
              have hw := hw.2.2.2.2.1 hs15
              refine lv_aload_n hx hb dX9_book_91 rfl (lv_at hl 0 rfl) ?_
              refine g_get (k := 3) hE hG (kd_lt kc0 (by decide)) (ce_9 kc0) rfl (by decide +kernel) (by decide) (by decide +kernel) rfl rfl dX9_book_92 ?_
              refine g_get (k := 4) hE hG (kd_lt kc57 (by decide)) (ce_5 kc57) rfl (by decide +kernel) (by decide) (by decide +kernel) rfl rfl dX9_book_95 ?_
              refine lv_iload_n hx hb dX9_book_98 rfl (lv_at hl 1 rfl) ?_
              obtain ⟨hi14, hw⟩ := hw
              refine g_iald (n := 30) hE hG (kd_lt kc62 (by decide)) (ce_int kc62 (by decide) (by decide)) hi14 dX9_book_99 ?_
              exact g_iret hE hG hr hlk dX9_book_100 hw
            · skip
              by_cases hs18 : v2 = (5 : Int32)
              · refine lv_tableIn (tgt := 101) hx hb dX9_book_10 (by rw [hs18]; decide) (by rw [hs18]; decide) (by rw [hs18]; rfl) (by decide) ?_
                have hw := hw.2.2.2.2.2.1 hs18
                refine lv_aload_n hx hb dX9_book_101 rfl (lv_at hl 0 rfl) ?_
                refine g_get (k := 3) hE hG (kd_lt kc0 (by decide)) (ce_9 kc0) rfl (by decide +kernel) (by decide) (by decide +kernel) rfl rfl dX9_book_102 ?_
                refine lv_iload_n hx hb dX9_book_105 rfl (lv_at hl 1 rfl) ?_
                refine g_calli hG (g_runV (rm := rm_X5_sectionOf) (As := [.int v1]) (rest := []) (n := 1) hE hG (m_X5_sectionOf l X hw _) gX9_book_X5_sectionOf rfl rfl rfl (by decide +kernel) ⟨Nat.le_of_ble_eq_true rfl, Nat.le_of_ble_eq_true rfl⟩ (kd_lt kc57 (by decide)) (ce_5 kc57) rfl rfl rfl hl.1 (Nat.le_of_ble_eq_true rfl) dX9_book_106 ⟨Nat.zero_le _, Nat.zero_le _⟩) (fun r16 σ17 H locs hw hG => ?_)
                exact g_iret hE hG hr hlk dX9_book_109 hw
              · skip
                have hw := hw.2.2.2.2.2.2 hs5 hs7 hs11 hs13 hs15 hs18
                have q0 := lv_neT hs5 (a := 0) (by decide)
                have q1 := lv_neT hs7 (a := 1) (by decide)
                have q2 := lv_neT hs11 (a := 2) (by decide)
                have q3 := lv_neT hs13 (a := 3) (by decide)
                have q4 := lv_neT hs15 (a := 4) (by decide)
                have q5 := lv_neT hs18 (a := 5) (by decide)
                refine lv_tableOut (tgt := 110) hx hb dX9_book_10 (by omega) (by decide) ?_
                refine lv_iconst (v := (-1)) hx hb dX9_book_110 (by decide) ?_
                exact g_iret hE hG hr hlk dX9_book_111 hw
  · have hw := hw.2 hc3
    refine lv_iconst (v := (-1)) hx hb dX9_book_7 (by decide) ?_
    exact g_iret hE hG hr hlk dX9_book_8 hw

set_option maxHeartbeats 4000000 in
set_option maxRecDepth 100000 in
theorem m_X9_verdict (l : Launch) (X : wX) {Q : Int32 → St → Prop} {o1 : Nat} {σ : St} (h_o1 : kcL.getD o1 999 = 1) (hw : wp_X9_verdict Q o1 σ) : mI X kcL l yX9_verdict wsX9_verdict rm_X9_verdict [.ref (X.2.1 0), .ref (X.2.1 o1)] σ Q := by
  refine mI.of (cc := cX9_verdict) (maxL := 2) (ret := (some .int)) (by decide +kernel) rfl (Nat.le_of_ble_eq_true rfl) ?_
  intro A p e s m args below meth c ls hE hr hlk hl hG
  have hx := hE.1.1
  have hb := hE.1.2.1
  unfold wp_X9_verdict at hw
  have hl : lv_has ls 2 [(0, .ref (X.2.1 0)), (1, .ref (X.2.1 o1))] := hl
  refine lv_aload_n hx hb dX9_verdict_0 rfl (lv_at hl 1 rfl) ?_
  refine g_get (k := 6) hE hG (kd_lt h_o1 (by decide)) (ce_1 h_o1) rfl (by decide +kernel) (by decide) (by decide +kernel) rfl rfl dX9_verdict_1 ?_
  refine lv_if_eq (tgt := 12) hx hb dX9_verdict_4 (by decide) (fun hc1 => ?_) (fun hc1 => ?_)
  · have hw := hw.1 hc1
    refine lv_aload_n hx hb dX9_verdict_12 rfl (lv_at hl 0 rfl) ?_
    refine g_get (k := 3) hE hG (kd_lt kc0 (by decide)) (ce_9 kc0) rfl (by decide +kernel) (by decide) (by decide +kernel) rfl rfl dX9_verdict_13 ?_
    refine g_get (k := 2) hE hG (kd_lt kc57 (by decide)) (ce_5 kc57) rfl (by decide +kernel) (by decide) (by decide +kernel) rfl rfl dX9_verdict_16 ?_
    refine lv_aload_n hx hb dX9_verdict_19 rfl (lv_at hl 1 rfl) ?_
    refine g_get (k := 2) hE hG (kd_lt h_o1 (by decide)) (ce_1 h_o1) rfl (by decide +kernel) (by decide) (by decide +kernel) rfl rfl dX9_verdict_20 ?_
    obtain ⟨hi2, hw⟩ := hw
    refine g_zald (n := 30) hE hG (kd_lt kc60 (by decide)) (ce_230 kc60) hi2 dX9_verdict_23 ?_
    refine lv_if_eq (tgt := 29) hx hb dX9_verdict_24 (by decide) (fun hc3 => ?_) (fun hc3 => ?_)
    · have hw := hw.1 hc3
      refine lv_aload_n hx hb dX9_verdict_29 rfl (lv_at hl 1 rfl) ?_
      refine g_get (k := 5) hE hG (kd_lt h_o1 (by decide)) (ce_1 h_o1) rfl (by decide +kernel) (by decide) (by decide +kernel) rfl rfl dX9_verdict_30 ?_
      refine lv_aload_n hx hb dX9_verdict_33 rfl (lv_at hl 1 rfl) ?_
      refine g_get (k := 4) hE hG (kd_lt h_o1 (by decide)) (ce_1 h_o1) rfl (by decide +kernel) (by decide) (by decide +kernel) rfl rfl dX9_verdict_34 ?_
      refine lv_isub hx hb dX9_verdict_37 ?_
      refine va_mabs hx hb (by rw [hl.1]; exact hE.1.2.2.1) hE.1.2.2.2.1 (hE.1.2.2.2.2 _ (by decide +kernel)) (hE.1.2.2.2.2 _ (by decide +kernel)) (hE.1.2.2.2.2 _ (by decide +kernel)) (hE.1.2.2.2.2 _ (by decide +kernel)) (Nat.le_of_ble_eq_true rfl) (Nat.le_of_ble_eq_true rfl) (Nat.zero_le _) (Nat.zero_le _) dX9_verdict_38 ?_
      refine lv_bipush (v := (20)) hx hb dX9_verdict_41 (by decide) ?_
      refine lv_icmp_le (tgt := 51) hx hb dX9_verdict_43 (by decide) (fun hc4 => ?_) (fun hc4 => ?_)
      · have hw := hw.1 hc4
        refine lv_iconst (v := 0) hx hb dX9_verdict_51 (by decide) ?_
        exact g_iret hE hG hr hlk dX9_verdict_52 hw
      · have hw := hw.2 hc4
        refine lv_bipush (v := (6)) hx hb dX9_verdict_46 (by decide) ?_
        refine lv_goto (tgt := 52) hx hb dX9_verdict_48 (by decide) ?_
        exact g_iret hE hG hr hlk dX9_verdict_52 hw
    · have hw := hw.2 hc3
      refine lv_iconst (v := 5) hx hb dX9_verdict_27 (by decide) ?_
      exact g_iret hE hG hr hlk dX9_verdict_28 hw
  · have hw := hw.2 hc1
    refine lv_aload_n hx hb dX9_verdict_7 rfl (lv_at hl 1 rfl) ?_
    refine g_get (k := 6) hE hG (kd_lt h_o1 (by decide)) (ce_1 h_o1) rfl (by decide +kernel) (by decide) (by decide +kernel) rfl rfl dX9_verdict_8 ?_
    exact g_iret hE hG hr hlk dX9_verdict_11 hw

set_option maxHeartbeats 4000000 in
set_option maxRecDepth 100000 in
theorem b_X9_takeOffEldest_41 {p : Program} {l : Launch} {e : Env} {s : State} {m : MethodId} {args : Array Value} {below : List Frame} {meth : Method} {c : Code} {X : wX} {A : Nat → Prop} {H : Heap} {locs : List Loc} {ls : Array Slot} {σ : St} (hE : eV p m c cX9_takeOffEldest 4 s args wsX9_takeOffEldest RX9 X) (hr : meth.sig.returnType = none) (hlk : meth.locks = false) {Q : St → Prop} {o1 : Nat} {z0 : Int32} {z1 : Int32} (h_o1 : kcL.getD o1 999 = 1) (hw : wb_X9_takeOffEldest_41 Q o1 z0 z1 σ) (hG : gW X kcL A s.heap σ H locs) (hl : lv_has ls 4 [(0, .ref (X.2.1 0)), (1, .ref (X.2.1 o1))]) : W p l e rm_X9_takeOffEldest s m args below meth c H locs 0 0 (zV X kcL below args s A Q) (F0 m 41 ls [.int z0, .int z1, .ref (X.2.1 57)]) := by
  have hx := hE.1.1
  have hb := hE.1.2.1
  unfold wb_X9_takeOffEldest_41 at hw
  refine g_callv hG (g_runV (rm := rm_X5_enter) (As := [.int z1, .int z0]) (rest := []) (n := 2) hE hG (m_X5_enter l X hw _) gX9_takeOffEldest_X5_enter rfl rfl rfl (by decide +kernel) ⟨Nat.le_of_ble_eq_true rfl, Nat.le_of_ble_eq_true rfl⟩ (kd_lt kc57 (by decide)) (ce_5 kc57) rfl rfl rfl hl.1 (Nat.le_of_ble_eq_true rfl) dX9_takeOffEldest_41 ⟨Nat.zero_le _, Nat.zero_le _⟩) (fun σ11 H locs hw hG => ?_)
  refine lv_aload_n hx hb dX9_takeOffEldest_44 rfl (lv_at hl 1 rfl) ?_
  refine g_get (k := 0) hE hG (kd_lt h_o1 (by decide)) (ce_1 h_o1) rfl (by decide +kernel) (by decide) (by decide +kernel) rfl rfl dX9_takeOffEldest_45 ?_
  refine lv_iconst (v := 4) hx hb dX9_takeOffEldest_48 (by decide) ?_
  refine lv_irem hx hb dX9_takeOffEldest_49 (by decide) ?_
  refine lv_if_ne (tgt := 86) hx hb dX9_takeOffEldest_50 (by decide) (fun hc12 => ?_) (fun hc12 => ?_)
  · have hw := hw.1 hc12
    exact g_vret hE hG hr hlk dX9_takeOffEldest_86 hw
  · have hw := hw.2 hc12
    refine lv_aload_n hx hb dX9_takeOffEldest_53 rfl (lv_at hl 0 rfl) ?_
    refine g_get (k := 11) hE hG (kd_lt kc0 (by decide)) (ce_9 kc0) rfl (by decide +kernel) (by decide) (by decide +kernel) rfl rfl dX9_takeOffEldest_54 ?_
    refine lv_aload_n hx hb dX9_takeOffEldest_57 rfl (lv_at hl 1 rfl) ?_
    refine g_get (k := 4) hE hG (kd_lt h_o1 (by decide)) (ce_1 h_o1) rfl (by decide +kernel) (by decide) (by decide +kernel) rfl rfl dX9_takeOffEldest_58 ?_
    refine lv_aload_n hx hb dX9_takeOffEldest_61 rfl (lv_at hl 1 rfl) ?_
    refine g_get (k := 5) hE hG (kd_lt h_o1 (by decide)) (ce_1 h_o1) rfl (by decide +kernel) (by decide) (by decide +kernel) rfl rfl dX9_takeOffEldest_62 ?_
    refine lv_isub hx hb dX9_takeOffEldest_65 ?_
    refine lv_iconst (v := 2) hx hb dX9_takeOffEldest_66 (by decide) ?_
    refine lv_idiv hx hb dX9_takeOffEldest_67 (by decide) ?_
    refine lv_iadd hx hb dX9_takeOffEldest_68 ?_
    refine lv_topi (fun x13 ex13 => ?_)
    have hw := hw x13 ex13
    refine lv_istore_n (lv' := [(3, .int x13), (0, .ref (X.2.1 0)), (1, .ref (X.2.1 o1))]) hx hb dX9_takeOffEldest_69 rfl hl (by decide) rfl (fun ls hl => ?_)
    refine lv_aload_n hx hb dX9_takeOffEldest_70 rfl (lv_at hl 1 rfl) ?_
    refine lv_bipush (v := (100)) hx hb dX9_takeOffEldest_71 (by decide) ?_
    refine lv_sipush (v := (900)) hx hb dX9_takeOffEldest_73 (by decide) ?_
    refine lv_iload_n hx hb dX9_takeOffEldest_76 rfl (lv_at hl 0 rfl) ?_
    refine va_mmin hx hb (by rw [hl.1]; exact hE.1.2.2.1) hE.1.2.2.2.1 (hE.1.2.2.2.2 _ (by decide +kernel)) (hE.1.2.2.2.2 _ (by decide +kernel)) (hE.1.2.2.2.2 _ (by decide +kernel)) (hE.1.2.2.2.2 _ (by decide +kernel)) (Nat.le_of_ble_eq_true rfl) (Nat.le_of_ble_eq_true rfl) (Nat.zero_le _) (Nat.zero_le _) dX9_takeOffEldest_77 ?_
    refine va_mmax hx hb (by rw [hl.1]; exact hE.1.2.2.1) hE.1.2.2.2.1 (hE.1.2.2.2.2 _ (by decide +kernel)) (hE.1.2.2.2.2 _ (by decide +kernel)) (hE.1.2.2.2.2 _ (by decide +kernel)) (hE.1.2.2.2.2 _ (by decide +kernel)) (Nat.le_of_ble_eq_true rfl) (Nat.le_of_ble_eq_true rfl) (Nat.zero_le _) (Nat.zero_le _) dX9_takeOffEldest_80 ?_
    refine g_put (k := 11) (x := (if (100 : Int32) < (if x13 < (900 : Int32) then x13 else (900 : Int32)) then (if x13 < (900 : Int32) then x13 else (900 : Int32)) else (100 : Int32))) (ty := .int) hE hG (kd_lt kc0 (by decide)) (ce_9 kc0) (by rw [ce_9 kc0]; rfl) rfl (by decide +kernel) tyX9 tyX9_ok nmX9 (by decide) (by decide +kernel) rfl rfl (by decide +kernel) rfl rfl (Nat.le_of_ble_eq_true rfl) dX9_takeOffEldest_83 (fun σ14 H locs eσ14 hG => ?_)
    have hw := hw σ14 eσ14
    exact g_vret hE hG hr hlk dX9_takeOffEldest_86 hw

set_option maxHeartbeats 4000000 in
set_option maxRecDepth 100000 in
theorem m_X9_takeOffEldest (l : Launch) (X : wX) {Q : St → Prop} {σ : St} (hw : wp_X9_takeOffEldest Q σ) : mV X kcL l yX9_takeOffEldest wsX9_takeOffEldest rm_X9_takeOffEldest [.ref (X.2.1 0)] σ Q := by
  refine mV.of (cc := cX9_takeOffEldest) (maxL := 4) (ret := none) (by decide +kernel) rfl (Nat.le_of_ble_eq_true rfl) ?_
  intro A p e s m args below meth c ls hE hr hlk hl hG
  have hx := hE.1.1
  have hb := hE.1.2.1
  unfold wp_X9_takeOffEldest at hw
  have hl : lv_has ls 4 [(0, .ref (X.2.1 0))] := hl
  refine lv_aload_n hx hb dX9_takeOffEldest_0 rfl (lv_at hl 0 rfl) ?_
  refine g_get (k := 4) hE hG (kd_lt kc0 (by decide)) (ce_9 kc0) rfl (by decide +kernel) (by decide) (by decide +kernel) rfl rfl dX9_takeOffEldest_1 ?_
  refine g_callrV (rm := rm_X0_takeEldest) (As := []) (rest := []) (n := 0) hE hG (m_X0_takeEldest l X hw) gX9_takeOffEldest_X0_takeEldest rfl rfl rfl (by decide +kernel) ⟨Nat.le_of_ble_eq_true rfl, Nat.le_of_ble_eq_true rfl⟩ (kd_lt kc64 (by decide)) (ce_0 kc64) rfl rfl rfl hl.1 (Nat.le_of_ble_eq_true rfl) dX9_takeOffEldest_4 ⟨Nat.zero_le _, Nat.zero_le _⟩ (fun r1 σ2 H locs hw hG => ?_)
  obtain ⟨hk3, hw⟩ := hw
  refine lv_astore_n (lv' := [(1, .ref (X.2.1 r1)), (0, .ref (X.2.1 0))]) hx hb dX9_takeOffEldest_7 rfl hl (by decide) rfl (fun ls hl => ?_)
  refine lv_aload_n hx hb dX9_takeOffEldest_8 rfl (lv_at hl 1 rfl) ?_
  refine lv_aload_n hx hb dX9_takeOffEldest_9 rfl (lv_at hl 0 rfl) ?_
  refine g_calli hG (g_runV (rm := rm_X9_verdict) (As := [.ref (X.2.1 r1)]) (rest := []) (n := 1) hE hG (m_X9_verdict l X hk3 hw _) gX9_takeOffEldest_X9_verdict rfl rfl rfl (by decide +kernel) ⟨Nat.le_of_ble_eq_true rfl, Nat.le_of_ble_eq_true rfl⟩ (kd_lt kc0 (by decide)) (ce_9 kc0) rfl rfl rfl hl.1 (Nat.le_of_ble_eq_true rfl) dX9_takeOffEldest_10 ⟨Nat.zero_le _, Nat.zero_le _⟩) (fun r4 σ5 H locs hw hG => ?_)
  refine lv_istore_n (lv' := [(2, .int r4), (1, .ref (X.2.1 r1)), (0, .ref (X.2.1 0))]) hx hb dX9_takeOffEldest_13 rfl hl (by decide) rfl (fun ls hl => ?_)
  refine lv_aload_n hx hb dX9_takeOffEldest_14 rfl (lv_at hl 2 rfl) ?_
  refine g_get (k := 8) hE hG (kd_lt kc0 (by decide)) (ce_9 kc0) rfl (by decide +kernel) (by decide) (by decide +kernel) rfl rfl dX9_takeOffEldest_15 ?_
  refine lv_iload_n hx hb dX9_takeOffEldest_18 rfl (lv_at hl 0 rfl) ?_
  refine lv_dup2_11 hx hb dX9_takeOffEldest_19 rfl rfl ?_
  obtain ⟨hi6, hw⟩ := hw
  refine g_iald (n := 7) hE hG (kd_lt kc81 (by decide)) (ce_int kc81 (by decide) (by decide)) hi6 dX9_takeOffEldest_20 ?_
  refine lv_iconst (v := 1) hx hb dX9_takeOffEldest_21 (by decide) ?_
  refine lv_iadd hx hb dX9_takeOffEldest_22 ?_
  obtain ⟨hi7, hw⟩ := hw
  refine g_iast (n := 7) hE hG (kd_lt kc81 (by decide)) (fun _ => ce_int kc81 (by decide) (by decide)) hi7 dX9_takeOffEldest_23 (fun σ8 H locs eσ8 hG => ?_)
  have hw := hw σ8 eσ8
  refine lv_aload_n hx hb dX9_takeOffEldest_24 rfl (lv_at hl 2 rfl) ?_
  refine g_get (k := 3) hE hG (kd_lt kc0 (by decide)) (ce_9 kc0) rfl (by decide +kernel) (by decide) (by decide +kernel) rfl rfl dX9_takeOffEldest_25 ?_
  refine lv_aload_n hx hb dX9_takeOffEldest_28 rfl (lv_at hl 1 rfl) ?_
  refine g_get (k := 2) hE hG (kd_lt hk3 (by decide)) (ce_1 hk3) rfl (by decide +kernel) (by decide) (by decide +kernel) rfl rfl dX9_takeOffEldest_29 ?_
  refine lv_iload_n hx hb dX9_takeOffEldest_32 rfl (lv_at hl 0 rfl) ?_
  refine lv_if_ne (tgt := 40) hx hb dX9_takeOffEldest_33 (by decide) (fun hc9 => ?_) (fun hc9 => ?_)
  · have hw := hw.1 hc9
    refine lv_iconst (v := 0) hx hb dX9_takeOffEldest_40 (by decide) ?_
    exact b_X9_takeOffEldest_41 hE hr hlk hk3 hw hG (lv_sub hl [2, 1] rfl)
  · have hw := hw.2 hc9
    refine lv_iconst (v := 1) hx hb dX9_takeOffEldest_36 (by decide) ?_
    refine lv_goto (tgt := 41) hx hb dX9_takeOffEldest_37 (by decide) ?_
    exact b_X9_takeOffEldest_41 hE hr hlk hk3 hw hG (lv_sub hl [2, 1] rfl)

set_option maxHeartbeats 4000000 in
set_option maxRecDepth 100000 in
theorem m_X9_faultOfCut (l : Launch) (X : wX) {Q : Int32 → St → Prop} {v1 : Int32} {v2 : Int32} {σ : St} (hw : wp_X9_faultOfCut Q v1 v2 σ) : mI X kcL l yX9_faultOfCut wsX9_faultOfCut rm_X9_faultOfCut [.ref (X.2.1 0), .int v1, .int v2] σ Q := by
  refine mI.of (cc := cX9_faultOfCut) (maxL := 3) (ret := (some .int)) (by decide +kernel) rfl (Nat.le_of_ble_eq_true rfl) ?_
  intro A p e s m args below meth c ls hE hr hlk hl hG
  have hx := hE.1.1
  have hb := hE.1.2.1
  unfold wp_X9_faultOfCut at hw
  have hl : lv_has ls 3 [(0, .ref (X.2.1 0)), (1, .int v1), (2, .int v2)] := hl
  refine lv_aload_n hx hb dX9_faultOfCut_0 rfl (lv_at hl 0 rfl) ?_
  refine g_get (k := 10) hE hG (kd_lt kc0 (by decide)) (ce_9 kc0) rfl (by decide +kernel) (by decide) (by decide +kernel) rfl rfl dX9_faultOfCut_1 ?_
  refine lv_if_le (tgt := 9) hx hb dX9_faultOfCut_4 (by decide) (fun hc1 => ?_) (fun hc1 => ?_)
  · have hw := hw.1 hc1
    refine lv_aload_n hx hb dX9_faultOfCut_9 rfl (lv_at hl 0 rfl) ?_
    refine g_get (k := 7) hE hG (kd_lt kc0 (by decide)) (ce_9 kc0) rfl (by decide +kernel) (by decide) (by decide +kernel) rfl rfl dX9_faultOfCut_10 ?_
    refine lv_iload_n hx hb dX9_faultOfCut_13 rfl (lv_at hl 1 rfl) ?_
    obtain ⟨hi2, hw⟩ := hw
    refine g_iald (n := 4) hE hG (kd_lt kc80 (by decide)) (ce_int kc80 (by decide) (by decide)) hi2 dX9_faultOfCut_14 ?_
    refine lv_aload_n hx hb dX9_faultOfCut_15 rfl (lv_at hl 0 rfl) ?_
    refine g_get (k := 9) hE hG (kd_lt kc0 (by decide)) (ce_9 kc0) rfl (by decide +kernel) (by decide) (by decide +kernel) rfl rfl dX9_faultOfCut_16 ?_
    refine lv_icmp_eq (tgt := 24) hx hb dX9_faultOfCut_19 (by decide) (fun hc3 => ?_) (fun hc3 => ?_)
    · have hw := hw.1 hc3
      refine lv_aload_n hx hb dX9_faultOfCut_24 rfl (lv_at hl 0 rfl) ?_
      refine g_get (k := 3) hE hG (kd_lt kc0 (by decide)) (ce_9 kc0) rfl (by decide +kernel) (by decide) (by decide +kernel) rfl rfl dX9_faultOfCut_25 ?_
      refine g_get (k := 1) hE hG (kd_lt kc57 (by decide)) (ce_5 kc57) rfl (by decide +kernel) (by decide) (by decide +kernel) rfl rfl dX9_faultOfCut_28 ?_
      refine lv_iload_n hx hb dX9_faultOfCut_31 rfl (lv_at hl 2 rfl) ?_
      obtain ⟨hi4, hw⟩ := hw
      refine g_iald (n := 30) hE hG (kd_lt kc59 (by decide)) (ce_int kc59 (by decide) (by decide)) hi4 dX9_faultOfCut_32 ?_
      refine lv_bipush (v := (8)) hx hb dX9_faultOfCut_33 (by decide) ?_
      refine lv_icmp_le (tgt := 40) hx hb dX9_faultOfCut_35 (by decide) (fun hc5 => ?_) (fun hc5 => ?_)
      · have hw := hw.1 hc5
        refine lv_aload_n hx hb dX9_faultOfCut_40 rfl (lv_at hl 0 rfl) ?_
        refine g_get (k := 3) hE hG (kd_lt kc0 (by decide)) (ce_9 kc0) rfl (by decide +kernel) (by decide) (by decide +kernel) rfl rfl dX9_faultOfCut_41 ?_
        refine g_get (k := 0) hE hG (kd_lt kc57 (by decide)) (ce_5 kc57) rfl (by decide +kernel) (by decide) (by decide +kernel) rfl rfl dX9_faultOfCut_44 ?_
        refine lv_iload_n hx hb dX9_faultOfCut_47 rfl (lv_at hl 2 rfl) ?_
        obtain ⟨hi6, hw⟩ := hw
        refine g_iald (n := 30) hE hG (kd_lt kc58 (by decide)) (ce_int kc58 (by decide) (by decide)) hi6 dX9_faultOfCut_48 ?_
        refine lv_aload_n hx hb dX9_faultOfCut_49 rfl (lv_at hl 0 rfl) ?_
        refine g_get (k := 13) hE hG (kd_lt kc0 (by decide)) (ce_9 kc0) rfl (by decide +kernel) (by decide) (by decide +kernel) rfl rfl dX9_faultOfCut_50 ?_
        refine lv_icmp_le (tgt := 60) hx hb dX9_faultOfCut_53 (by decide) (fun hc7 => ?_) (fun hc7 => ?_)
        · have hw := hw.1 hc7
          refine lv_iconst (v := 0) hx hb dX9_faultOfCut_60 (by decide) ?_
          exact g_iret hE hG hr hlk dX9_faultOfCut_61 hw
        · have hw := hw.2 hc7
          refine lv_iconst (v := 4) hx hb dX9_faultOfCut_56 (by decide) ?_
          refine lv_goto (tgt := 61) hx hb dX9_faultOfCut_57 (by decide) ?_
          exact g_iret hE hG hr hlk dX9_faultOfCut_61 hw
      · have hw := hw.2 hc5
        refine lv_iconst (v := 3) hx hb dX9_faultOfCut_38 (by decide) ?_
        exact g_iret hE hG hr hlk dX9_faultOfCut_39 hw
    · have hw := hw.2 hc3
      refine lv_iconst (v := 2) hx hb dX9_faultOfCut_22 (by decide) ?_
      exact g_iret hE hG hr hlk dX9_faultOfCut_23 hw
  · have hw := hw.2 hc1
    refine lv_iconst (v := 1) hx hb dX9_faultOfCut_7 (by decide) ?_
    exact g_iret hE hG hr hlk dX9_faultOfCut_8 hw

set_option maxHeartbeats 4000000 in
set_option maxRecDepth 100000 in
theorem m_X9_makeBottle (l : Launch) (X : wX) {Q : St → Prop} {σ : St} (hw : wp_X9_makeBottle Q σ) : mV X kcL l yX9_makeBottle wsX9_makeBottle rm_X9_makeBottle [.ref (X.2.1 0)] σ Q := by
  refine mV.of (cc := cX9_makeBottle) (maxL := 5) (ret := none) (by decide +kernel) rfl (Nat.le_of_ble_eq_true rfl) ?_
  intro A p e s m args below meth c ls hE hr hlk hl hG
  have hx := hE.1.1
  have hb := hE.1.2.1
  unfold wp_X9_makeBottle at hw
  have hl : lv_has ls 5 [(0, .ref (X.2.1 0))] := hl
  refine lv_aload_n hx hb dX9_makeBottle_0 rfl (lv_at hl 0 rfl) ?_
  refine g_get (k := 2) hE hG (kd_lt kc0 (by decide)) (ce_9 kc0) rfl (by decide +kernel) (by decide) (by decide +kernel) rfl rfl dX9_makeBottle_1 ?_
  refine g_calli hG (g_runV (rm := rm_X6_next) (As := []) (rest := []) (n := 0) hE hG (m_X6_next l X hw _) gX9_makeBottle_X6_next rfl rfl rfl (by decide +kernel) ⟨Nat.le_of_ble_eq_true rfl, Nat.le_of_ble_eq_true rfl⟩ (kd_lt kc55 (by decide)) (ce_6 kc55) rfl rfl rfl hl.1 (Nat.le_of_ble_eq_true rfl) dX9_makeBottle_4 ⟨Nat.zero_le _, Nat.zero_le _⟩) (fun r1 σ2 H locs hw hG => ?_)
  refine lv_istore_n (lv' := [(1, .int r1), (0, .ref (X.2.1 0))]) hx hb dX9_makeBottle_7 rfl hl (by decide) rfl (fun ls hl => ?_)
  refine lv_aload_n hx hb dX9_makeBottle_8 rfl (lv_at hl 1 rfl) ?_
  refine g_get (k := 2) hE hG (kd_lt kc0 (by decide)) (ce_9 kc0) rfl (by decide +kernel) (by decide) (by decide +kernel) rfl rfl dX9_makeBottle_9 ?_
  refine g_callv hG (g_runV (rm := rm_X6_pass) (As := []) (rest := []) (n := 0) hE hG (m_X6_pass l X hw _) gX9_makeBottle_X6_pass rfl rfl rfl (by decide +kernel) ⟨Nat.le_of_ble_eq_true rfl, Nat.le_of_ble_eq_true rfl⟩ (kd_lt kc55 (by decide)) (ce_6 kc55) rfl rfl rfl hl.1 (Nat.le_of_ble_eq_true rfl) dX9_makeBottle_12 ⟨Nat.zero_le _, Nat.zero_le _⟩) (fun σ4 H locs hw hG => ?_)
  refine lv_aload_n hx hb dX9_makeBottle_15 rfl (lv_at hl 1 rfl) ?_
  refine g_get (k := 3) hE hG (kd_lt kc0 (by decide)) (ce_9 kc0) rfl (by decide +kernel) (by decide) (by decide +kernel) rfl rfl dX9_makeBottle_16 ?_
  refine g_get (k := 5) hE hG (kd_lt kc57 (by decide)) (ce_5 kc57) rfl (by decide +kernel) (by decide) (by decide +kernel) rfl rfl dX9_makeBottle_19 ?_
  refine lv_iload_n hx hb dX9_makeBottle_22 rfl (lv_at hl 0 rfl) ?_
  obtain ⟨hi5, hw⟩ := hw
  refine g_iald (n := 6) hE hG (kd_lt kc63 (by decide)) (ce_int kc63 (by decide) (by decide)) hi5 dX9_makeBottle_23 ?_
  refine lv_topi (fun x6 ex6 => ?_)
  have hw := hw x6 ex6
  refine lv_istore_n (lv' := [(2, .int x6), (1, .int r1), (0, .ref (X.2.1 0))]) hx hb dX9_makeBottle_24 rfl hl (by decide) rfl (fun ls hl => ?_)
  refine lv_aload_n hx hb dX9_makeBottle_25 rfl (lv_at hl 2 rfl) ?_
  refine g_get (k := 5) hE hG (kd_lt kc0 (by decide)) (ce_9 kc0) rfl (by decide +kernel) (by decide) (by decide +kernel) rfl rfl dX9_makeBottle_26 ?_
  refine lv_iload_n hx hb dX9_makeBottle_29 rfl (lv_at hl 1 rfl) ?_
  obtain ⟨hi7, hw⟩ := hw
  refine g_iald (n := 6) hE hG (kd_lt kc78 (by decide)) (ce_int kc78 (by decide) (by decide)) hi7 dX9_makeBottle_30 ?_
  refine lv_topi (fun x8 ex8 => ?_)
  have hw := hw x8 ex8
  refine lv_istore_n (lv' := [(3, .int x8), (2, .int x6), (1, .int r1), (0, .ref (X.2.1 0))]) hx hb dX9_makeBottle_31 rfl hl (by decide) rfl (fun ls hl => ?_)
  refine lv_aload_n hx hb dX9_makeBottle_32 rfl (lv_at hl 3 rfl) ?_
  refine g_get (k := 3) hE hG (kd_lt kc0 (by decide)) (ce_9 kc0) rfl (by decide +kernel) (by decide) (by decide +kernel) rfl rfl dX9_makeBottle_33 ?_
  refine g_get (k := 0) hE hG (kd_lt kc57 (by decide)) (ce_5 kc57) rfl (by decide +kernel) (by decide) (by decide +kernel) rfl rfl dX9_makeBottle_36 ?_
  refine lv_iload_n hx hb dX9_makeBottle_39 rfl (lv_at hl 1 rfl) ?_
  refine lv_dup2_11 hx hb dX9_makeBottle_40 rfl rfl ?_
  obtain ⟨hi9, hw⟩ := hw
  refine g_iald (n := 30) hE hG (kd_lt kc58 (by decide)) (ce_int kc58 (by decide) (by decide)) hi9 dX9_makeBottle_41 ?_
  refine lv_iconst (v := 1) hx hb dX9_makeBottle_42 (by decide) ?_
  refine lv_iadd hx hb dX9_makeBottle_43 ?_
  obtain ⟨hi10, hw⟩ := hw
  refine g_iast (n := 30) hE hG (kd_lt kc58 (by decide)) (fun _ => ce_int kc58 (by decide) (by decide)) hi10 dX9_makeBottle_44 (fun σ11 H locs eσ11 hG => ?_)
  have hw := hw σ11 eσ11
  refine lv_aload_n hx hb dX9_makeBottle_45 rfl (lv_at hl 3 rfl) ?_
  refine g_get (k := 3) hE hG (kd_lt kc0 (by decide)) (ce_9 kc0) rfl (by decide +kernel) (by decide) (by decide +kernel) rfl rfl dX9_makeBottle_46 ?_
  refine g_get (k := 1) hE hG (kd_lt kc57 (by decide)) (ce_5 kc57) rfl (by decide +kernel) (by decide) (by decide +kernel) rfl rfl dX9_makeBottle_49 ?_
  refine lv_iload_n hx hb dX9_makeBottle_52 rfl (lv_at hl 1 rfl) ?_
  refine lv_dup2_11 hx hb dX9_makeBottle_53 rfl rfl ?_
  obtain ⟨hi12, hw⟩ := hw
  refine g_iald (n := 30) hE hG (kd_lt kc59 (by decide)) (ce_int kc59 (by decide) (by decide)) hi12 dX9_makeBottle_54 ?_
  refine lv_iconst (v := 1) hx hb dX9_makeBottle_55 (by decide) ?_
  refine lv_iadd hx hb dX9_makeBottle_56 ?_
  obtain ⟨hi13, hw⟩ := hw
  refine g_iast (n := 30) hE hG (kd_lt kc59 (by decide)) (fun _ => ce_int kc59 (by decide) (by decide)) hi13 dX9_makeBottle_57 (fun σ14 H locs eσ14 hG => ?_)
  have hw := hw σ14 eσ14
  refine lv_aload_n hx hb dX9_makeBottle_58 rfl (lv_at hl 3 rfl) ?_
  refine g_get (k := 4) hE hG (kd_lt kc0 (by decide)) (ce_9 kc0) rfl (by decide +kernel) (by decide) (by decide +kernel) rfl rfl dX9_makeBottle_59 ?_
  refine g_callrV (rm := rm_X0_putLast) (As := []) (rest := []) (n := 0) hE hG (m_X0_putLast l X hw) gX9_makeBottle_X0_putLast rfl rfl rfl (by decide +kernel) ⟨Nat.le_of_ble_eq_true rfl, Nat.le_of_ble_eq_true rfl⟩ (kd_lt kc64 (by decide)) (ce_0 kc64) rfl rfl rfl hl.1 (Nat.le_of_ble_eq_true rfl) dX9_makeBottle_62 ⟨Nat.zero_le _, Nat.zero_le _⟩ (fun r15 σ16 H locs hw hG => ?_)
  obtain ⟨hk17, hw⟩ := hw
  refine lv_astore (lv' := [(4, .ref (X.2.1 r15)), (3, .int x8), (2, .int x6), (1, .int r1), (0, .ref (X.2.1 0))]) hx hb dX9_makeBottle_65 hl (by decide) rfl (fun ls hl => ?_)
  refine lv_aload hx hb dX9_makeBottle_67 (lv_at hl 0 rfl) ?_
  refine lv_aload_n hx hb dX9_makeBottle_69 rfl (lv_at hl 4 rfl) ?_
  refine g_get (k := 14) hE hG (kd_lt kc0 (by decide)) (ce_9 kc0) rfl (by decide +kernel) (by decide) (by decide +kernel) rfl rfl dX9_makeBottle_70 ?_
  refine g_put (k := 0) (x := (σ16 0 14)) (ty := .int) hE hG (kd_lt hk17 (by decide)) (ce_1 hk17) (by rw [ce_1 hk17]; rfl) rfl (by decide +kernel) tyX1 tyX1_ok nmX1 (by decide) (by decide +kernel) rfl rfl (by decide +kernel) rfl rfl (Nat.le_of_ble_eq_true rfl) dX9_makeBottle_73 (fun σ18 H locs eσ18 hG => ?_)
  have hw := hw σ18 eσ18
  refine lv_aload hx hb dX9_makeBottle_76 (lv_at hl 0 rfl) ?_
  refine lv_iload_n hx hb dX9_makeBottle_78 rfl (lv_at hl 3 rfl) ?_
  refine g_put (k := 1) (x := r1) (ty := .int) hE hG (kd_lt hk17 (by decide)) (ce_1 hk17) (by rw [ce_1 hk17]; rfl) rfl (by decide +kernel) tyX1 tyX1_ok nmX1 (by decide) (by decide +kernel) rfl rfl (by decide +kernel) rfl rfl (Nat.le_of_ble_eq_true rfl) dX9_makeBottle_79 (fun σ19 H locs eσ19 hG => ?_)
  have hw := hw σ19 eσ19
  refine lv_aload hx hb dX9_makeBottle_82 (lv_at hl 0 rfl) ?_
  refine lv_iload_n hx hb dX9_makeBottle_84 rfl (lv_at hl 2 rfl) ?_
  refine g_put (k := 2) (x := x6) (ty := .int) hE hG (kd_lt hk17 (by decide)) (ce_1 hk17) (by rw [ce_1 hk17]; rfl) rfl (by decide +kernel) tyX1 tyX1_ok nmX1 (by decide) (by decide +kernel) rfl rfl (by decide +kernel) rfl rfl (Nat.le_of_ble_eq_true rfl) dX9_makeBottle_85 (fun σ20 H locs eσ20 hG => ?_)
  have hw := hw σ20 eσ20
  refine lv_aload hx hb dX9_makeBottle_88 (lv_at hl 0 rfl) ?_
  refine lv_iload_n hx hb dX9_makeBottle_90 rfl (lv_at hl 1 rfl) ?_
  refine g_put (k := 3) (x := x8) (ty := .int) hE hG (kd_lt hk17 (by decide)) (ce_1 hk17) (by rw [ce_1 hk17]; rfl) rfl (by decide +kernel) tyX1 tyX1_ok nmX1 (by decide) (by decide +kernel) rfl rfl (by decide +kernel) rfl rfl (Nat.le_of_ble_eq_true rfl) dX9_makeBottle_91 (fun σ21 H locs eσ21 hG => ?_)
  have hw := hw σ21 eσ21
  refine lv_aload hx hb dX9_makeBottle_94 (lv_at hl 0 rfl) ?_
  refine lv_aload_n hx hb dX9_makeBottle_96 rfl (lv_at hl 4 rfl) ?_
  refine g_get (k := 6) hE hG (kd_lt kc0 (by decide)) (ce_9 kc0) rfl (by decide +kernel) (by decide) (by decide +kernel) rfl rfl dX9_makeBottle_97 ?_
  refine lv_iload_n hx hb dX9_makeBottle_100 rfl (lv_at hl 1 rfl) ?_
  obtain ⟨hi22, hw⟩ := hw
  refine g_iald (n := 4) hE hG (kd_lt kc79 (by decide)) (ce_int kc79 (by decide) (by decide)) hi22 dX9_makeBottle_101 ?_
  refine g_put (k := 4) (x := (σ21 79 x8.toNatClampNeg)) (ty := .int) hE hG (kd_lt hk17 (by decide)) (ce_1 hk17) (by rw [ce_1 hk17]; rfl) rfl (by decide +kernel) tyX1 tyX1_ok nmX1 (by decide) (by decide +kernel) rfl rfl (by decide +kernel) rfl rfl (Nat.le_of_ble_eq_true rfl) dX9_makeBottle_102 (fun σ23 H locs eσ23 hG => ?_)
  have hw := hw σ23 eσ23
  refine lv_aload hx hb dX9_makeBottle_105 (lv_at hl 0 rfl) ?_
  refine lv_aload_n hx hb dX9_makeBottle_107 rfl (lv_at hl 4 rfl) ?_
  refine g_get (k := 11) hE hG (kd_lt kc0 (by decide)) (ce_9 kc0) rfl (by decide +kernel) (by decide) (by decide +kernel) rfl rfl dX9_makeBottle_108 ?_
  refine lv_aload_n hx hb dX9_makeBottle_111 rfl (lv_at hl 4 rfl) ?_
  refine g_get (k := 12) hE hG (kd_lt kc0 (by decide)) (ce_9 kc0) rfl (by decide +kernel) (by decide) (by decide +kernel) rfl rfl dX9_makeBottle_112 ?_
  refine lv_iadd hx hb dX9_makeBottle_115 ?_
  refine lv_aload hx hb dX9_makeBottle_116 (lv_at hl 0 rfl) ?_
  refine g_get (k := 4) hE hG (kd_lt hk17 (by decide)) (ce_1 hk17) rfl (by decide +kernel) (by decide) (by decide +kernel) rfl rfl dX9_makeBottle_118 ?_
  refine lv_iadd hx hb dX9_makeBottle_121 ?_
  refine lv_sipush (v := (500)) hx hb dX9_makeBottle_122 (by decide) ?_
  refine lv_isub hx hb dX9_makeBottle_125 ?_
  refine g_put (k := 5) (x := ((((σ23 0 11) + (σ23 0 12)) + (σ23 r15 4)) - (500 : Int32))) (ty := .int) hE hG (kd_lt hk17 (by decide)) (ce_1 hk17) (by rw [ce_1 hk17]; rfl) rfl (by decide +kernel) tyX1 tyX1_ok nmX1 (by decide) (by decide +kernel) rfl rfl (by decide +kernel) rfl rfl (Nat.le_of_ble_eq_true rfl) dX9_makeBottle_126 (fun σ24 H locs eσ24 hG => ?_)
  have hw := hw σ24 eσ24
  refine lv_aload hx hb dX9_makeBottle_129 (lv_at hl 0 rfl) ?_
  refine lv_aload_n hx hb dX9_makeBottle_131 rfl (lv_at hl 4 rfl) ?_
  refine lv_iload_n hx hb dX9_makeBottle_132 rfl (lv_at hl 1 rfl) ?_
  refine lv_iload_n hx hb dX9_makeBottle_133 rfl (lv_at hl 2 rfl) ?_
  refine g_calli hG (g_runV (rm := rm_X9_faultOfCut) (As := [.int x8, .int x6]) (rest := [.ref (X.2.1 r15)]) (n := 2) hE hG (m_X9_faultOfCut l X hw _) gX9_makeBottle_X9_faultOfCut rfl rfl rfl (by decide +kernel) ⟨Nat.le_of_ble_eq_true rfl, Nat.le_of_ble_eq_true rfl⟩ (kd_lt kc0 (by decide)) (ce_9 kc0) rfl rfl rfl hl.1 (Nat.le_of_ble_eq_true rfl) dX9_makeBottle_134 ⟨Nat.zero_le _, Nat.zero_le _⟩) (fun r25 σ26 H locs hw hG => ?_)
  refine g_put (k := 6) (x := r25) (ty := .int) hE hG (kd_lt hk17 (by decide)) (ce_1 hk17) (by rw [ce_1 hk17]; rfl) rfl (by decide +kernel) tyX1 tyX1_ok nmX1 (by decide) (by decide +kernel) rfl rfl (by decide +kernel) rfl rfl (Nat.le_of_ble_eq_true rfl) dX9_makeBottle_137 (fun σ27 H locs eσ27 hG => ?_)
  have hw := hw σ27 eσ27
  refine lv_aload_n hx hb dX9_makeBottle_140 rfl (lv_at hl 4 rfl) ?_
  refine lv_dup hx hb dX9_makeBottle_141 rfl ?_
  refine g_get (k := 14) hE hG (kd_lt kc0 (by decide)) (ce_9 kc0) rfl (by decide +kernel) (by decide) (by decide +kernel) rfl rfl dX9_makeBottle_142 ?_
  refine lv_iconst (v := 1) hx hb dX9_makeBottle_145 (by decide) ?_
  refine lv_iadd hx hb dX9_makeBottle_146 ?_
  refine g_put (k := 14) (x := ((σ27 0 14) + (1 : Int32))) (ty := .int) hE hG (kd_lt kc0 (by decide)) (ce_9 kc0) (by rw [ce_9 kc0]; rfl) rfl (by decide +kernel) tyX9 tyX9_ok nmX9 (by decide) (by decide +kernel) rfl rfl (by decide +kernel) rfl rfl (Nat.le_of_ble_eq_true rfl) dX9_makeBottle_147 (fun σ28 H locs eσ28 hG => ?_)
  have hw := hw σ28 eσ28
  refine lv_aload_n hx hb dX9_makeBottle_150 rfl (lv_at hl 4 rfl) ?_
  refine g_get (k := 10) hE hG (kd_lt kc0 (by decide)) (ce_9 kc0) rfl (by decide +kernel) (by decide) (by decide +kernel) rfl rfl dX9_makeBottle_151 ?_
  refine lv_if_le (tgt := 167) hx hb dX9_makeBottle_154 (by decide) (fun hc29 => ?_) (fun hc29 => ?_)
  · have hw := hw.1 hc29
    exact g_vret hE hG hr hlk dX9_makeBottle_167 hw
  · have hw := hw.2 hc29
    refine lv_aload_n hx hb dX9_makeBottle_157 rfl (lv_at hl 4 rfl) ?_
    refine lv_dup hx hb dX9_makeBottle_158 rfl ?_
    refine g_get (k := 10) hE hG (kd_lt kc0 (by decide)) (ce_9 kc0) rfl (by decide +kernel) (by decide) (by decide +kernel) rfl rfl dX9_makeBottle_159 ?_
    refine lv_iconst (v := 1) hx hb dX9_makeBottle_162 (by decide) ?_
    refine lv_isub hx hb dX9_makeBottle_163 ?_
    refine g_put (k := 10) (x := ((σ28 0 10) - (1 : Int32))) (ty := .int) hE hG (kd_lt kc0 (by decide)) (ce_9 kc0) (by rw [ce_9 kc0]; rfl) rfl (by decide +kernel) tyX9 tyX9_ok nmX9 (by decide) (by decide +kernel) rfl rfl (by decide +kernel) rfl rfl (Nat.le_of_ble_eq_true rfl) dX9_makeBottle_164 (fun σ30 H locs eσ30 hG => ?_)
    have hw := hw σ30 eσ30
    exact g_vret hE hG hr hlk dX9_makeBottle_167 hw

