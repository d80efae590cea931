/-! contracts, by program -/
set_option maxHeartbeats 4000000 in
set_option maxRecDepth 100000 in
theorem b_X10_sectionOf_2 {p : Program} {l : Launch} {e : Env} {s : State} {m : MethodId} {args : Array Value} {below : List Frame} {meth : Method} {c : Code} {X : wX} {A : Nat → Prop} (hE : eV p m c cX10_sectionOf 3 s args wsX10_sectionOf RX10 X) (hr : meth.sig.returnType = (some .int)) (hlk : meth.locks = false) {Q : Int32 → St → Prop} {v1 : Int32} : ∀ (n : Nat) (σ : St) (v2 : Int32) (H : Heap) (locs : List Loc) (ls : Array Slot), wl_X10_sectionOf_2 Q v1 n σ v2 → gW X kmL A s.heap σ H locs → lv_has ls 3 [(0, .ref (X.2.1 0)), (1, .int v1), (2, .int v2)] → W p l e rm_X10_sectionOf s m args below meth c H locs 0 0 (zI X kmL below args s A Q) (F0 m 2 ls []) := by
  have hx := hE.1.1
  have hb := hE.1.2.1
  intro n
  induction n with
  | zero =>
    intro σ v2 H locs ls hw
    exact False.elim hw
  | succ n ih =>
    intro σ v2 H locs ls hw hG hl
    have hw : wB_X10_sectionOf_2 Q (wl_X10_sectionOf_2 Q v1 n) v1 σ v2 := hw
    unfold wB_X10_sectionOf_2 at hw
    refine lv_iload_n hx hb dX10_sectionOf_2 rfl (lv_at hl 2 rfl) ?_
    refine lv_bipush (v := (6)) hx hb dX10_sectionOf_3 (by decide) ?_
    refine lv_icmp_ge (tgt := 26) hx hb dX10_sectionOf_5 (by decide) (fun hc1 => ?_) (fun hc1 => ?_)
    · have hw := hw.1 hc1
      refine lv_iconst (v := (-1)) hx hb dX10_sectionOf_26 (by decide) ?_
      exact g_iret hE hG hr hlk dX10_sectionOf_27 hw
    · have hw := hw.2 hc1
      refine lv_aload_n hx hb dX10_sectionOf_8 rfl (lv_at hl 0 rfl) ?_
      refine g_get (k := 18) hE hG (kd_lt km0 (by decide)) (ce_10 km0) rfl (by decide +kernel) (by decide) (by decide +kernel) rfl rfl dX10_sectionOf_9 ?_
      refine lv_iload_n hx hb dX10_sectionOf_12 rfl (lv_at hl 2 rfl) ?_
      obtain ⟨hi2, hw⟩ := hw
      refine g_iald (n := 6) hE hG (kd_lt km14 (by decide)) (ce_int km14 (by decide) (by decide)) hi2 dX10_sectionOf_13 ?_
      refine lv_iload_n hx hb dX10_sectionOf_14 rfl (lv_at hl 1 rfl) ?_
      refine lv_icmp_ne (tgt := 20) hx hb dX10_sectionOf_15 (by decide) (fun hc3 => ?_) (fun hc3 => ?_)
      · have hw := hw.1 hc3
        obtain ⟨x4, ex4⟩ : ∃ z : Int32, z = v2 + (1 : Int32) := ⟨_, rfl⟩
        have hw := hw x4 ex4
        refine lv_iinc (v := x4) (lv' := [(2, .int x4), (0, .ref (X.2.1 0)), (1, .int v1)]) hx hb dX10_sectionOf_20 hl (k := 2) rfl (by rw [ex4]; rfl) (by decide) rfl (fun ls hl => ?_)
        refine lv_goto (tgt := 2) hx hb dX10_sectionOf_23 (by decide) ?_
        exact ih _ _ _ _ _ hw hG (lv_sub hl [1, 2, 0] rfl)
      · have hw := hw.2 hc3
        refine lv_iload_n hx hb dX10_sectionOf_18 rfl (lv_at hl 2 rfl) ?_
        exact g_iret hE hG hr hlk dX10_sectionOf_19 hw

set_option maxHeartbeats 4000000 in
set_option maxRecDepth 100000 in
theorem m_X10_sectionOf (l : Launch) (X : wX) {Q : Int32 → St → Prop} {v1 : Int32} {σ : St} (hw : wp_X10_sectionOf Q v1 σ) : mI X kmL l yX10_sectionOf wsX10_sectionOf rm_X10_sectionOf [.ref (X.2.1 0), .int v1] σ Q := by
  refine mI.of (cc := cX10_sectionOf) (maxL := 3) (ret := (some .int)) (by decide +kernel) rfl (Nat.le_of_ble_eq_true rfl) ?_
  intro A p e s m args below meth c ls hE hr hlk hl hG
  have hx := hE.1.1
  have hb := hE.1.2.1
  unfold wp_X10_sectionOf at hw
  have hl : lv_has ls 3 [(0, .ref (X.2.1 0)), (1, .int v1)] := hl
  refine lv_iconst (v := 0) hx hb dX10_sectionOf_0 (by decide) ?_
  refine lv_istore_n (lv' := [(2, .int (0 : Int32)), (0, .ref (X.2.1 0)), (1, .int v1)]) hx hb dX10_sectionOf_1 rfl hl (by decide) rfl (fun ls hl => ?_)
  obtain ⟨n, hw⟩ := hw
  exact b_X10_sectionOf_2 hE hr hlk n _ _ _ _ _ hw hG (lv_sub hl [1, 2, 0] rfl)

set_option maxHeartbeats 4000000 in
set_option maxRecDepth 100000 in
theorem m_X10_mould (l : Launch) (X : wX) {Q : Int32 → St → Prop} {v1 : Int32} {v2 : Int32} {σ : St} (hw : wp_X10_mould Q v1 v2 σ) : mI X kmL l yX10_mould wsX10_mould rm_X10_mould [.ref (X.2.1 0), .int v1, .int v2] σ Q := by
  refine mI.of (cc := cX10_mould) (maxL := 4) (ret := (some .int)) (by decide +kernel) rfl (Nat.le_of_ble_eq_true rfl) ?_
  intro A p e s m args below meth c ls hE hr hlk hl hG
  have hx := hE.1.1
  have hb := hE.1.2.1
  unfold wp_X10_mould at hw
  have hl : lv_has ls 4 [(0, .ref (X.2.1 0)), (1, .int v1), (2, .int v2)] := hl
  refine lv_iload_n hx hb dX10_mould_0 rfl (lv_at hl 1 rfl) ?_
  refine g_calli hG (g_runS (rm := rm_X10_isSection) (As := [.int v1]) (rest := []) (n := 1) hE hG (m_X10_isSection l X hw _) gX10_mould_X10_isSection rfl rfl rfl (by decide +kernel) ⟨Nat.le_of_ble_eq_true rfl, Nat.le_of_ble_eq_true rfl⟩ rfl hl.1 (Nat.le_of_ble_eq_true rfl) dX10_mould_1 ⟨Nat.zero_le _, Nat.zero_le _⟩) (fun r1 σ2 H locs hw hG => ?_)
  refine lv_if_eq (tgt := 14) hx hb dX10_mould_4 (by decide) (fun hc3 => ?_) (fun hc3 => ?_)
  · have hw := hw.1 hc3
    refine lv_iconst (v := (-1)) hx hb dX10_mould_14 (by decide) ?_
    exact g_iret hE hG hr hlk dX10_mould_15 hw
  · have hw := hw.2 hc3
    refine lv_iload_n hx hb dX10_mould_7 rfl (lv_at hl 2 rfl) ?_
    refine g_calli hG (g_runS (rm := rm_X10_isMould) (As := [.int v2]) (rest := []) (n := 1) hE hG (m_X10_isMould l X hw _) gX10_mould_X10_isMould rfl rfl rfl (by decide +kernel) ⟨Nat.le_of_ble_eq_true rfl, Nat.le_of_ble_eq_true rfl⟩ rfl hl.1 (Nat.le_of_ble_eq_true rfl) dX10_mould_8 ⟨Nat.zero_le _, Nat.zero_le _⟩) (fun r4 σ5 H locs hw hG => ?_)
    refine lv_if_ne (tgt := 16) hx hb dX10_mould_11 (by decide) (fun hc6 => ?_) (fun hc6 => ?_)
    · have hw := hw.1 hc6
      refine lv_aload_n hx hb dX10_mould_16 rfl (lv_at hl 0 rfl) ?_
      refine lv_iload_n hx hb dX10_mould_17 rfl (lv_at hl 2 rfl) ?_
      refine g_calli hG (g_runV (rm := rm_X10_sectionOf) (As := [.int v2]) (rest := []) (n := 1) hE hG (m_X10_sectionOf l X hw _) gX10_mould_X10_sectionOf rfl rfl rfl (by decide +kernel) ⟨Nat.le_of_ble_eq_true rfl, Nat.le_of_ble_eq_true rfl⟩ (kd_lt km0 (by decide)) (ce_10 km0) rfl rfl rfl hl.1 (Nat.le_of_ble_eq_true rfl) dX10_mould_18 ⟨Nat.zero_le _, Nat.zero_le _⟩) (fun r7 σ8 H locs hw hG => ?_)
      refine lv_if_lt (tgt := 27) hx hb dX10_mould_21 (by decide) (fun hc9 => ?_) (fun hc9 => ?_)
      · have hw := hw.1 hc9
        refine lv_aload_n hx hb dX10_mould_27 rfl (lv_at hl 0 rfl) ?_
        refine g_get (k := 18) hE hG (kd_lt km0 (by decide)) (ce_10 km0) rfl (by decide +kernel) (by decide) (by decide +kernel) rfl rfl dX10_mould_28 ?_
        refine lv_iload_n hx hb dX10_mould_31 rfl (lv_at hl 1 rfl) ?_
        obtain ⟨hi10, hw⟩ := hw
        refine g_iald (n := 6) hE hG (kd_lt km14 (by decide)) (ce_int km14 (by decide) (by decide)) hi10 dX10_mould_32 ?_
        refine lv_topi (fun x11 ex11 => ?_)
        have hw := hw x11 ex11
        refine lv_istore_n (lv' := [(3, .int x11), (0, .ref (X.2.1 0)), (1, .int v1), (2, .int v2)]) hx hb dX10_mould_33 rfl hl (by decide) rfl (fun ls hl => ?_)
        refine lv_aload_n hx hb dX10_mould_34 rfl (lv_at hl 1 rfl) ?_
        refine g_get (k := 18) hE hG (kd_lt km0 (by decide)) (ce_10 km0) rfl (by decide +kernel) (by decide) (by decide +kernel) rfl rfl dX10_mould_35 ?_
        refine lv_iload_n hx hb dX10_mould_38 rfl (lv_at hl 2 rfl) ?_
        refine lv_iload_n hx hb dX10_mould_39 rfl (lv_at hl 3 rfl) ?_
        obtain ⟨hi12, hw⟩ := hw
        refine g_iast (n := 6) hE hG (kd_lt km14 (by decide)) (fun _ => ce_int km14 (by decide) (by decide)) hi12 dX10_mould_40 (fun σ13 H locs eσ13 hG => ?_)
        have hw := hw σ13 eσ13
        refine lv_iload_n hx hb dX10_mould_41 rfl (lv_at hl 0 rfl) ?_
        exact g_iret hE hG hr hlk dX10_mould_42 hw
      · have hw := hw.2 hc9
        refine lv_bipush (v := (-3)) hx hb dX10_mould_24 (by decide) ?_
        exact g_iret hE hG hr hlk dX10_mould_26 hw
    · have hw := hw.2 hc6
      refine lv_iconst (v := (-1)) hx hb dX10_mould_14 (by decide) ?_
      exact g_iret hE hG hr hlk dX10_mould_15 hw

set_option maxHeartbeats 4000000 in
set_option maxRecDepth 100000 in
theorem m_X10_swab (l : Launch) (X : wX) {Q : Int32 → St → Prop} {v1 : Int32} {σ : St} (hw : wp_X10_swab Q v1 σ) : mI X kmL l yX10_swab wsX10_swab rm_X10_swab [.ref (X.2.1 0), .int v1] σ Q := by
  refine mI.of (cc := cX10_swab) (maxL := 3) (ret := (some .int)) (by decide +kernel) rfl (Nat.le_of_ble_eq_true rfl) ?_
  intro A p e s m args below meth c ls hE hr hlk hl hG
  have hx := hE.1.1
  have hb := hE.1.2.1
  unfold wp_X10_swab at hw
  have hl : lv_has ls 3 [(0, .ref (X.2.1 0)), (1, .int v1)] := hl
  refine lv_iload_n hx hb dX10_swab_0 rfl (lv_at hl 1 rfl) ?_
  refine g_calli hG (g_runS (rm := rm_X10_isMould) (As := [.int v1]) (rest := []) (n := 1) hE hG (m_X10_isMould l X hw _) gX10_swab_X10_isMould rfl rfl rfl (by decide +kernel) ⟨Nat.le_of_ble_eq_true rfl, Nat.le_of_ble_eq_true rfl⟩ rfl hl.1 (Nat.le_of_ble_eq_true rfl) dX10_swab_1 ⟨Nat.zero_le _, Nat.zero_le _⟩) (fun r1 σ2 H locs hw hG => ?_)
  refine lv_if_ne (tgt := 9) hx hb dX10_swab_4 (by decide) (fun hc3 => ?_) (fun hc3 => ?_)
  · have hw := hw.1 hc3
    refine lv_aload_n hx hb dX10_swab_9 rfl (lv_at hl 0 rfl) ?_
    refine g_get (k := 22) hE hG (kd_lt km0 (by decide)) (ce_10 km0) rfl (by decide +kernel) (by decide) (by decide +kernel) rfl rfl dX10_swab_10 ?_
    refine lv_iload_n hx hb dX10_swab_13 rfl (lv_at hl 1 rfl) ?_
    obtain ⟨hi4, hw⟩ := hw
    refine g_iald (n := 30) hE hG (kd_lt km18 (by decide)) (ce_int km18 (by decide) (by decide)) hi4 dX10_swab_14 ?_
    refine lv_topi (fun x5 ex5 => ?_)
    have hw := hw x5 ex5
    refine lv_istore_n (lv' := [(2, .int x5), (0, .ref (X.2.1 0)), (1, .int v1)]) hx hb dX10_swab_15 rfl hl (by decide) rfl (fun ls hl => ?_)
    refine lv_aload_n hx hb dX10_swab_16 rfl (lv_at hl 1 rfl) ?_
    refine g_get (k := 22) hE hG (kd_lt km0 (by decide)) (ce_10 km0) rfl (by decide +kernel) (by decide) (by decide +kernel) rfl rfl dX10_swab_17 ?_
    refine lv_iload_n hx hb dX10_swab_20 rfl (lv_at hl 2 rfl) ?_
    refine lv_iconst (v := 0) hx hb dX10_swab_21 (by decide) ?_
    obtain ⟨hi6, hw⟩ := hw
    refine g_iast (n := 30) hE hG (kd_lt km18 (by decide)) (fun _ => ce_int km18 (by decide) (by decide)) hi6 dX10_swab_22 (fun σ7 H locs eσ7 hG => ?_)
    have hw := hw σ7 eσ7
    refine lv_iload_n hx hb dX10_swab_23 rfl (lv_at hl 0 rfl) ?_
    exact g_iret hE hG hr hlk dX10_swab_24 hw
  · have hw := hw.2 hc3
    refine lv_iconst (v := (-1)) hx hb dX10_swab_7 (by decide) ?_
    exact g_iret hE hG hr hlk dX10_swab_8 hw

set_option maxHeartbeats 4000000 in
set_option maxRecDepth 100000 in
theorem m_X10_repair (l : Launch) (X : wX) {Q : Int32 → St → Prop} {v1 : Int32} {σ : St} (hw : wp_X10_repair Q v1 σ) : mI X kmL l yX10_repair wsX10_repair rm_X10_repair [.ref (X.2.1 0), .int v1] σ Q := by
  refine mI.of (cc := cX10_repair) (maxL := 3) (ret := (some .int)) (by decide +kernel) rfl (Nat.le_of_ble_eq_true rfl) ?_
  intro A p e s m args below meth c ls hE hr hlk hl hG
  have hx := hE.1.1
  have hb := hE.1.2.1
  unfold wp_X10_repair at hw
  have hl : lv_has ls 3 [(0, .ref (X.2.1 0)), (1, .int v1)] := hl
  refine lv_iload_n hx hb dX10_repair_0 rfl (lv_at hl 1 rfl) ?_
  refine g_calli hG (g_runS (rm := rm_X10_isMould) (As := [.int v1]) (rest := []) (n := 1) hE hG (m_X10_isMould l X hw _) gX10_repair_X10_isMould rfl rfl rfl (by decide +kernel) ⟨Nat.le_of_ble_eq_true rfl, Nat.le_of_ble_eq_true rfl⟩ rfl hl.1 (Nat.le_of_ble_eq_true rfl) dX10_repair_1 ⟨Nat.zero_le _, Nat.zero_le _⟩) (fun r1 σ2 H locs hw hG => ?_)
  refine lv_if_ne (tgt := 9) hx hb dX10_repair_4 (by decide) (fun hc3 => ?_) (fun hc3 => ?_)
  · have hw := hw.1 hc3
    refine lv_aload_n hx hb dX10_repair_9 rfl (lv_at hl 0 rfl) ?_
    refine g_get (k := 21) hE hG (kd_lt km0 (by decide)) (ce_10 km0) rfl (by decide +kernel) (by decide) (by decide +kernel) rfl rfl dX10_repair_10 ?_
    refine lv_iload_n hx hb dX10_repair_13 rfl (lv_at hl 1 rfl) ?_
    obtain ⟨hi4, hw⟩ := hw
    refine g_iald (n := 30) hE hG (kd_lt km17 (by decide)) (ce_int km17 (by decide) (by decide)) hi4 dX10_repair_14 ?_
    refine lv_topi (fun x5 ex5 => ?_)
    have hw := hw x5 ex5
    refine lv_istore_n (lv' := [(2, .int x5), (0, .ref (X.2.1 0)), (1, .int v1)]) hx hb dX10_repair_15 rfl hl (by decide) rfl (fun ls hl => ?_)
    refine lv_aload_n hx hb dX10_repair_16 rfl (lv_at hl 1 rfl) ?_
    refine g_get (k := 21) hE hG (kd_lt km0 (by decide)) (ce_10 km0) rfl (by decide +kernel) (by decide) (by decide +kernel) rfl rfl dX10_repair_17 ?_
    refine lv_iload_n hx hb dX10_repair_20 rfl (lv_at hl 2 rfl) ?_
    refine lv_iconst (v := 0) hx hb dX10_repair_21 (by decide) ?_
    obtain ⟨hi6, hw⟩ := hw
    refine g_iast (n := 30) hE hG (kd_lt km17 (by decide)) (fun _ => ce_int km17 (by decide) (by decide)) hi6 dX10_repair_22 (fun σ7 H locs eσ7 hG => ?_)
    have hw := hw σ7 eσ7
    refine lv_aload_n hx hb dX10_repair_23 rfl (lv_at hl 1 rfl) ?_
    refine g_get (k := 22) hE hG (kd_lt km0 (by decide)) (ce_10 km0) rfl (by decide +kernel) (by decide) (by decide +kernel) rfl rfl dX10_repair_24 ?_
    refine lv_iload_n hx hb dX10_repair_27 rfl (lv_at hl 2 rfl) ?_
    refine lv_iconst (v := 0) hx hb dX10_repair_28 (by decide) ?_
    obtain ⟨hi8, hw⟩ := hw
    refine g_iast (n := 30) hE hG (kd_lt km18 (by decide)) (fun _ => ce_int km18 (by decide) (by decide)) hi8 dX10_repair_29 (fun σ9 H locs eσ9 hG => ?_)
    have hw := hw σ9 eσ9
    refine lv_aload_n hx hb dX10_repair_30 rfl (lv_at hl 1 rfl) ?_
    refine g_get (k := 23) hE hG (kd_lt km0 (by decide)) (ce_10 km0) rfl (by decide +kernel) (by decide) (by decide +kernel) rfl rfl dX10_repair_31 ?_
    refine lv_iload_n hx hb dX10_repair_34 rfl (lv_at hl 2 rfl) ?_
    refine lv_iconst (v := 0) hx hb dX10_repair_35 (by decide) ?_
    obtain ⟨hi10, hw⟩ := hw
    refine g_zast (n := 30) hE hG (kd_lt km19 (by decide)) (fun _ => ce_230 km19) hi10 dX10_repair_36 (fun σ11 H locs eσ11 hG => ?_)
    have hw := hw σ11 eσ11
    refine lv_iload_n hx hb dX10_repair_37 rfl (lv_at hl 0 rfl) ?_
    exact g_iret hE hG hr hlk dX10_repair_38 hw
  · have hw := hw.2 hc3
    refine lv_iconst (v := (-1)) hx hb dX10_repair_7 (by decide) ?_
    exact g_iret hE hG hr hlk dX10_repair_8 hw

set_option maxHeartbeats 4000000 in
set_option maxRecDepth 100000 in
theorem m_X10_pull (l : Launch) (X : wX) {Q : Int32 → St → Prop} {v1 : Int32} {v2 : Int32} {σ : St} (hw : wp_X10_pull Q v1 v2 σ) : mI X kmL l yX10_pull wsX10_pull rm_X10_pull [.ref (X.2.1 0), .int v1, .int v2] σ Q := by
  refine mI.of (cc := cX10_pull) (maxL := 4) (ret := (some .int)) (by decide +kernel) rfl (Nat.le_of_ble_eq_true rfl) ?_
  intro A p e s m args below meth c ls hE hr hlk hl hG
  have hx := hE.1.1
  have hb := hE.1.2.1
  unfold wp_X10_pull at hw
  have hl : lv_has ls 4 [(0, .ref (X.2.1 0)), (1, .int v1), (2, .int v2)] := hl
  refine lv_iload_n hx hb dX10_pull_0 rfl (lv_at hl 1 rfl) ?_
  refine g_calli hG (g_runS (rm := rm_X10_isMould) (As := [.int v1]) (rest := []) (n := 1) hE hG (m_X10_isMould l X hw _) gX10_pull_X10_isMould rfl rfl rfl (by decide +kernel) ⟨Nat.le_of_ble_eq_true rfl, Nat.le_of_ble_eq_true rfl⟩ rfl hl.1 (Nat.le_of_ble_eq_true rfl) dX10_pull_1 ⟨Nat.zero_le _, Nat.zero_le _⟩) (fun r1 σ2 H locs hw hG => ?_)
  refine lv_if_ne (tgt := 9) hx hb dX10_pull_4 (by decide) (fun hc3 => ?_) (fun hc3 => ?_)
  · have hw := hw.1 hc3
    refine lv_aload_n hx hb dX10_pull_9 rfl (lv_at hl 0 rfl) ?_
    refine g_get (k := 23) hE hG (kd_lt km0 (by decide)) (ce_10 km0) rfl (by decide +kernel) (by decide) (by decide +kernel) rfl rfl dX10_pull_10 ?_
    refine lv_iload_n hx hb dX10_pull_13 rfl (lv_at hl 1 rfl) ?_
    obtain ⟨hi4, hw⟩ := hw
    refine g_zald (n := 30) hE hG (kd_lt km19 (by decide)) (ce_230 km19) hi4 dX10_pull_14 ?_
    refine lv_topi (fun x5 ex5 => ?_)
    have hw := hw x5 ex5
    refine lv_istore_n (lv' := [(3, .int x5), (0, .ref (X.2.1 0)), (1, .int v1), (2, .int v2)]) hx hb dX10_pull_15 rfl hl (by decide) rfl (fun ls hl => ?_)
    refine lv_aload_n hx hb dX10_pull_16 rfl (lv_at hl 1 rfl) ?_
    refine g_get (k := 23) hE hG (kd_lt km0 (by decide)) (ce_10 km0) rfl (by decide +kernel) (by decide) (by decide +kernel) rfl rfl dX10_pull_17 ?_
    refine lv_iload_n hx hb dX10_pull_20 rfl (lv_at hl 2 rfl) ?_
    refine lv_iload_n hx hb dX10_pull_21 rfl (lv_at hl 3 rfl) ?_
    obtain ⟨hi6, hw⟩ := hw
    refine g_zast (n := 30) hE hG (kd_lt km19 (by decide)) (fun _ => ce_230 km19) hi6 dX10_pull_22 (fun σ7 H locs eσ7 hG => ?_)
    have hw := hw σ7 eσ7
    refine lv_iload_n hx hb dX10_pull_23 rfl (lv_at hl 0 rfl) ?_
    refine lv_iload_n hx hb dX10_pull_24 rfl (lv_at hl 3 rfl) ?_
    refine lv_icmp_ne (tgt := 32) hx hb dX10_pull_25 (by decide) (fun hc8 => ?_) (fun hc8 => ?_)
    · have hw := hw.1 hc8
      refine lv_iconst (v := 1) hx hb dX10_pull_32 (by decide) ?_
      exact g_iret hE hG hr hlk dX10_pull_33 hw
    · have hw := hw.2 hc8
      refine lv_iconst (v := 0) hx hb dX10_pull_28 (by decide) ?_
      refine lv_goto (tgt := 33) hx hb dX10_pull_29 (by decide) ?_
      exact g_iret hE hG hr hlk dX10_pull_33 hw
  · have hw := hw.2 hc3
    refine lv_iconst (v := (-1)) hx hb dX10_pull_7 (by decide) ?_
    exact g_iret hE hG hr hlk dX10_pull_8 hw

set_option maxHeartbeats 4000000 in
set_option maxRecDepth 100000 in
theorem b_X10_rule_59 {p : Program} {l : Launch} {e : Env} {s : State} {m : MethodId} {args : Array Value} {below : List Frame} {meth : Method} {c : Code} {X : wX} {A : Nat → Prop} {H : Heap} {locs : List Loc} {ls : Array Slot} {σ : St} (hE : eV p m c cX10_rule 4 s args wsX10_rule RX10 X) (hr : meth.sig.returnType = (some .int)) (hlk : meth.locks = false) {Q : Int32 → St → Prop} {v1 : Int32} {v2 : Int32} {z0 : Int32} (hw : wb_X10_rule_59 Q v1 v2 z0 σ) (hG : gW X kmL A s.heap σ H locs) (hl : lv_has ls 4 [(0, .ref (X.2.1 0)), (1, .int v1), (2, .int v2)]) : W p l e rm_X10_rule s m args below meth c H locs 0 0 (zI X kmL below args s A Q) (F0 m 59 ls [.int z0]) := by
  have hx := hE.1.1
  have hb := hE.1.2.1
  unfold wb_X10_rule_59 at hw
  refine lv_istore_n (lv' := [(3, .int z0), (0, .ref (X.2.1 0)), (1, .int v1), (2, .int v2)]) hx hb dX10_rule_59 rfl hl (by decide) rfl (fun ls hl => ?_)
  refine lv_iload_n hx hb dX10_rule_60 rfl (lv_at hl 2 rfl) ?_
  refine lv_if_ne (tgt := 72) hx hb dX10_rule_61 (by decide) (fun hc10 => ?_) (fun hc10 => ?_)
  · have hw := hw.1 hc10
    refine lv_aload_n hx hb dX10_rule_72 rfl (lv_at hl 1 rfl) ?_
    refine lv_iload_n hx hb dX10_rule_73 rfl (lv_at hl 3 rfl) ?_
    refine g_put (k := 28) (x := v2) (ty := .int) hE hG (kd_lt km0 (by decide)) (ce_10 km0) (by rw [ce_10 km0]; rfl) rfl (by decide +kernel) tyX10 tyX10_ok nmX10 (by decide) (by decide +kernel) rfl rfl (by decide +kernel) rfl rfl (Nat.le_of_ble_eq_true rfl) dX10_rule_74 (fun σ11 H locs eσ11 hG => ?_)
    have hw := hw σ11 eσ11
    refine lv_iload_n hx hb dX10_rule_77 rfl (lv_at hl 0 rfl) ?_
    exact g_iret hE hG hr hlk dX10_rule_78 hw
  · have hw := hw.2 hc10
    refine lv_aload_n hx hb dX10_rule_64 rfl (lv_at hl 1 rfl) ?_
    refine lv_iload_n hx hb dX10_rule_65 rfl (lv_at hl 3 rfl) ?_
    refine g_put (k := 27) (x := v2) (ty := .int) hE hG (kd_lt km0 (by decide)) (ce_10 km0) (by rw [ce_10 km0]; rfl) rfl (by decide +kernel) tyX10 tyX10_ok nmX10 (by decide) (by decide +kernel) rfl rfl (by decide +kernel) rfl rfl (Nat.le_of_ble_eq_true rfl) dX10_rule_66 (fun σ12 H locs eσ12 hG => ?_)
    have hw := hw σ12 eσ12
    refine lv_goto (tgt := 77) hx hb dX10_rule_69 (by decide) ?_
    refine lv_iload_n hx hb dX10_rule_77 rfl (lv_at hl 0 rfl) ?_
    exact g_iret hE hG hr hlk dX10_rule_78 hw

set_option maxHeartbeats 4000000 in
set_option maxRecDepth 100000 in
theorem b_X10_rule_34 {p : Program} {l : Launch} {e : Env} {s : State} {m : MethodId} {args : Array Value} {below : List Frame} {meth : Method} {c : Code} {X : wX} {A : Nat → Prop} {H : Heap} {locs : List Loc} {ls : Array Slot} {σ : St} (hE : eV p m c cX10_rule 4 s args wsX10_rule RX10 X) (hr : meth.sig.returnType = (some .int)) (hlk : meth.locks = false) {Q : Int32 → St → Prop} {v1 : Int32} {v2 : Int32} {z0 : Int32} {z1 : Int32} {z2 : Int32} (hw : wb_X10_rule_34 Q v1 v2 z0 z1 z2 σ) (hG : gW X kmL A s.heap σ H locs) (hl : lv_has ls 4 [(0, .ref (X.2.1 0)), (1, .int v1), (2, .int v2)]) : W p l e rm_X10_rule s m args below meth c H locs 0 0 (zI X kmL below args s A Q) (F0 m 34 ls [.int z0, .int z1, .int z2]) := by
  have hx := hE.1.1
  have hb := hE.1.2.1
  unfold wb_X10_rule_34 at hw
  refine g_calli hG (g_runS (rm := rm_X10_in) (As := [.int z2, .int z1, .int z0]) (rest := []) (n := 3) hE hG (m_X10_in l X hw _) gX10_rule_X10_in rfl rfl rfl (by decide +kernel) ⟨Nat.le_of_ble_eq_true rfl, Nat.le_of_ble_eq_true rfl⟩ rfl hl.1 (Nat.le_of_ble_eq_true rfl) dX10_rule_34 ⟨Nat.zero_le _, Nat.zero_le _⟩) (fun r6 σ7 H locs hw hG => ?_)
  refine lv_if_ne (tgt := 44) hx hb dX10_rule_37 (by decide) (fun hc8 => ?_) (fun hc8 => ?_)
  · have hw := hw.1 hc8
    refine lv_iload_n hx hb dX10_rule_44 rfl (lv_at hl 1 rfl) ?_
    refine lv_if_ne (tgt := 55) hx hb dX10_rule_45 (by decide) (fun hc9 => ?_) (fun hc9 => ?_)
    · have hw := hw.1 hc9
      refine lv_aload_n hx hb dX10_rule_55 rfl (lv_at hl 0 rfl) ?_
      refine g_get (k := 28) hE hG (kd_lt km0 (by decide)) (ce_10 km0) rfl (by decide +kernel) (by decide) (by decide +kernel) rfl rfl dX10_rule_56 ?_
      exact b_X10_rule_59 hE hr hlk hw hG (lv_sub hl [0, 1, 2] rfl)
    · have hw := hw.2 hc9
      refine lv_aload_n hx hb dX10_rule_48 rfl (lv_at hl 0 rfl) ?_
      refine g_get (k := 27) hE hG (kd_lt km0 (by decide)) (ce_10 km0) rfl (by decide +kernel) (by decide) (by decide +kernel) rfl rfl dX10_rule_49 ?_
      refine lv_goto (tgt := 59) hx hb dX10_rule_52 (by decide) ?_
      exact b_X10_rule_59 hE hr hlk hw hG (lv_sub hl [0, 1, 2] rfl)
  · have hw := hw.2 hc8
    refine lv_sipush (v := (-1000)) hx hb dX10_rule_40 (by decide) ?_
    exact g_iret hE hG hr hlk dX10_rule_43 hw

set_option maxHeartbeats 4000000 in
set_option maxRecDepth 100000 in
theorem b_X10_rule_21 {p : Program} {l : Launch} {e : Env} {s : State} {m : MethodId} {args : Array Value} {below : List Frame} {meth : Method} {c : Code} {X : wX} {A : Nat → Prop} {H : Heap} {locs : List Loc} {ls : Array Slot} {σ : St} (hE : eV p m c cX10_rule 4 s args wsX10_rule RX10 X) (hr : meth.sig.returnType = (some .int)) (hlk : meth.locks = false) {Q : Int32 → St → Prop} {v1 : Int32} {v2 : Int32} {z0 : Int32} {z1 : Int32} (hw : wb_X10_rule_21 Q v1 v2 z0 z1 σ) (hG : gW X kmL A s.heap σ H locs) (hl : lv_has ls 4 [(0, .ref (X.2.1 0)), (1, .int v1), (2, .int v2)]) : W p l e rm_X10_rule s m args below meth c H locs 0 0 (zI X kmL below args s A Q) (F0 m 21 ls [.int z0, .int z1]) := by
  have hx := hE.1.1
  have hb := hE.1.2.1
  unfold wb_X10_rule_21 at hw
  refine lv_iload_n hx hb dX10_rule_21 rfl (lv_at hl 1 rfl) ?_
  refine lv_if_ne (tgt := 31) hx hb dX10_rule_22 (by decide) (fun hc5 => ?_) (fun hc5 => ?_)
  · have hw := hw.1 hc5
    refine lv_sipush (v := (1000)) hx hb dX10_rule_31 (by decide) ?_
    exact b_X10_rule_34 hE hr hlk hw hG (lv_sub hl [0, 1, 2] rfl)
  · have hw := hw.2 hc5
    refine lv_sipush (v := (200)) hx hb dX10_rule_25 (by decide) ?_
    refine lv_goto (tgt := 34) hx hb dX10_rule_28 (by decide) ?_
    exact b_X10_rule_34 hE hr hlk hw hG (lv_sub hl [0, 1, 2] rfl)

set_option maxHeartbeats 4000000 in
set_option maxRecDepth 100000 in
theorem m_X10_rule (l : Launch) (X : wX) {Q : Int32 → St → Prop} {v1 : Int32} {v2 : Int32} {σ : St} (hw : wp_X10_rule Q v1 v2 σ) : mI X kmL l yX10_rule wsX10_rule rm_X10_rule [.ref (X.2.1 0), .int v1, .int v2] σ Q := by
  refine mI.of (cc := cX10_rule) (maxL := 4) (ret := (some .int)) (by decide +kernel) rfl (Nat.le_of_ble_eq_true rfl) ?_
  intro A p e s m args below meth c ls hE hr hlk hl hG
  have hx := hE.1.1
  have hb := hE.1.2.1
  unfold wp_X10_rule at hw
  have hl : lv_has ls 4 [(0, .ref (X.2.1 0)), (1, .int v1), (2, .int v2)] := hl
  refine lv_iload_n hx hb dX10_rule_0 rfl (lv_at hl 1 rfl) ?_
  refine lv_iconst (v := 0) hx hb dX10_rule_1 (by decide) ?_
  refine lv_iconst (v := 1) hx hb dX10_rule_2 (by decide) ?_
  refine g_calli hG (g_runS (rm := rm_X10_in) (As := [.int v1, .int (0 : Int32), .int (1 : Int32)]) (rest := []) (n := 3) hE hG (m_X10_in l X hw _) gX10_rule_X10_in rfl rfl rfl (by decide +kernel) ⟨Nat.le_of_ble_eq_true rfl, Nat.le_of_ble_eq_true rfl⟩ rfl hl.1 (Nat.le_of_ble_eq_true rfl) dX10_rule_3 ⟨Nat.zero_le _, Nat.zero_le _⟩) (fun r1 σ2 H locs hw hG => ?_)
  refine lv_if_eq (tgt := 40) hx hb dX10_rule_6 (by decide) (fun hc3 => ?_) (fun hc3 => ?_)
  · have hw := hw.1 hc3
    refine lv_sipush (v := (-1000)) hx hb dX10_rule_40 (by decide) ?_
    exact g_iret hE hG hr hlk dX10_rule_43 hw
  · have hw := hw.2 hc3
    refine lv_iload_n hx hb dX10_rule_9 rfl (lv_at hl 2 rfl) ?_
    refine lv_iload_n hx hb dX10_rule_10 rfl (lv_at hl 1 rfl) ?_
    refine lv_if_ne (tgt := 20) hx hb dX10_rule_11 (by decide) (fun hc4 => ?_) (fun hc4 => ?_)
    · have hw := hw.1 hc4
      refine lv_iconst (v := 1) hx hb dX10_rule_20 (by decide) ?_
      exact b_X10_rule_21 hE hr hlk hw hG (lv_sub hl [0, 1, 2] rfl)
    · have hw := hw.2 hc4
      refine lv_sipush (v := (-200)) hx hb dX10_rule_14 (by decide) ?_
      refine lv_goto (tgt := 21) hx hb dX10_rule_17 (by decide) ?_
      exact b_X10_rule_21 hE hr hlk hw hG (lv_sub hl [0, 1, 2] rfl)

set_option maxHeartbeats 4000000 in
set_option maxRecDepth 100000 in
theorem m_X10_book (l : Launch) (X : wX) {Q : Int32 → St → Prop} {v1 : Int32} {v2 : Int32} {σ : St} (hw : wp_X10_book Q v1 v2 σ) : mI X kmL l yX10_book wsX10_book rm_X10_book [.ref (X.2.1 0), .int v1, .int v2] σ Q := by
  refine mI.of (cc := cX10_book) (maxL := 3) (ret := (some .int)) (by decide +kernel) rfl (Nat.le_of_ble_eq_true rfl) ?_
  intro A p e s m args below meth c ls hE hr hlk hl hG
  have hx := hE.1.1
  have hb := hE.1.2.1
  unfold wp_X10_book at hw
  have hl : lv_has ls 3 [(0, .ref (X.2.1 0)), (1, .int v1), (2, .int v2)] := hl
  refine lv_iload_n hx hb dX10_book_0 rfl (lv_at hl 1 rfl) ?_
  refine g_calli hG (g_runS (rm := rm_X10_isMould) (As := [.int v1]) (rest := []) (n := 1) hE hG (m_X10_isMould l X hw _) gX10_book_X10_isMould rfl rfl rfl (by decide +kernel) ⟨Nat.le_of_ble_eq_true rfl, Nat.le_of_ble_eq_true rfl⟩ rfl hl.1 (Nat.le_of_ble_eq_true rfl) dX10_book_1 ⟨Nat.zero_le _, Nat.zero_le _⟩) (fun r1 σ2 H locs hw hG => ?_)
  refine lv_if_ne (tgt := 9) hx hb dX10_book_4 (by decide) (fun hc3 => ?_) (fun hc3 => ?_)
  · have hw := hw.1 hc3
    refine lv_iload_n hx hb dX10_book_9 rfl (lv_at hl 2 rfl) ?_
    by_cases hs5 : v2 = (0 : Int32)
    · refine lv_tableIn (tgt := 48) hx hb dX10_book_10 (by rw [hs5]; decide) (by rw [hs5]; decide) (by rw [hs5]; rfl) (by decide) ?_
      have hw := hw.1 hs5
      refine lv_aload_n hx hb dX10_book_48 rfl (lv_at hl 0 rfl) ?_
      refine g_get (k := 21) hE hG (kd_lt km0 (by decide)) (ce_10 km0) rfl (by decide +kernel) (by decide) (by decide +kernel) rfl rfl dX10_book_49 ?_
      refine lv_iload_n hx hb dX10_book_52 rfl (lv_at hl 1 rfl) ?_
      obtain ⟨hi4, hw⟩ := hw
      refine g_iald (n := 30) hE hG (kd_lt km17 (by decide)) (ce_int km17 (by decide) (by decide)) hi4 dX10_book_53 ?_
      exact g_iret hE hG hr hlk dX10_book_54 hw
    · skip
      by_cases hs7 : v2 = (1 : Int32)
      · refine lv_tableIn (tgt := 55) hx hb dX10_book_10 (by rw [hs7]; decide) (by rw [hs7]; decide) (by rw [hs7]; rfl) (by decide) ?_
        have hw := hw.2.1 hs7
        refine lv_aload_n hx hb dX10_book_55 rfl (lv_at hl 0 rfl) ?_
        refine g_get (k := 22) hE hG (kd_lt km0 (by decide)) (ce_10 km0) rfl (by decide +kernel) (by decide) (by decide +kernel) rfl rfl dX10_book_56 ?_
        refine lv_iload_n hx hb dX10_book_59 rfl (lv_at hl 1 rfl) ?_
        obtain ⟨hi6, hw⟩ := hw
        refine g_iald (n := 30) hE hG (kd_lt km18 (by decide)) (ce_int km18 (by decide) (by decide)) hi6 dX10_book_60 ?_
        exact g_iret hE hG hr hlk dX10_book_61 hw
      · skip
        by_cases hs10 : v2 = (2 : Int32)
        · refine lv_tableIn (tgt := 62) hx hb dX10_book_10 (by rw [hs10]; decide) (by rw [hs10]; decide) (by rw [hs10]; rfl) (by decide) ?_
          have hw := hw.2.2.1 hs10
          refine lv_aload_n hx hb dX10_book_62 rfl (lv_at hl 0 rfl) ?_
          refine g_get (k := 23) hE hG (kd_lt km0 (by decide)) (ce_10 km0) rfl (by decide +kernel) (by decide) (by decide +kernel) rfl rfl dX10_book_63 ?_
          refine lv_iload_n hx hb dX10_book_66 rfl (lv_at hl 1 rfl) ?_
          obtain ⟨hi8, hw⟩ := hw
          refine g_zald (n := 30) hE hG (kd_lt km19 (by decide)) (ce_230 km19) hi8 dX10_book_67 ?_
          refine lv_if_eq (tgt := 75) hx hb dX10_book_68 (by decide) (fun hc9 => ?_) (fun hc9 => ?_)
          · have hw := hw.1 hc9
            refine lv_iconst (v := 0) hx hb dX10_book_75 (by decide) ?_
            exact g_iret hE hG hr hlk dX10_book_76 hw
          · have hw := hw.2 hc9
            refine lv_iconst (v := 1) hx hb dX10_book_71 (by decide) ?_
            refine lv_goto (tgt := 76) hx hb dX10_book_72 (by decide) ?_
            exact g_iret hE hG hr hlk dX10_book_76 hw
        · skip
          by_cases hs12 : v2 = (3 : Int32)
          · refine lv_tableIn (tgt := 77) hx hb dX10_book_10 (by rw [hs12]; decide) (by rw [hs12]; decide) (by rw [hs12]; rfl) (by decide) ?_
            have hw := hw.2.2.2.1 hs12
            refine lv_aload_n hx hb dX10_book_77 rfl (lv_at hl 0 rfl) ?_
            refine g_get (k := 24) hE hG (kd_lt km0 (by decide)) (ce_10 km0) rfl (by decide +kernel) (by decide) (by decide +kernel) rfl rfl dX10_book_78 ?_
            refine lv_iload_n hx hb dX10_book_81 rfl (lv_at hl 1 rfl) ?_
            obtain ⟨hi11, hw⟩ := hw
            refine g_iald (n := 30) hE hG (kd_lt km20 (by decide)) (ce_int km20 (by decide) (by decide)) hi11 dX10_book_82 ?_
            exact g_iret hE hG hr hlk dX10_book_83 hw
          · skip
            by_cases hs14 : v2 = (4 : Int32)
            · refine lv_tableIn (tgt := 84) hx hb dX10_book_10 (by rw [hs14]; decide) (by rw [hs14]; decide) (by rw [hs14]; rfl) (by decide) ?_
              have hw := hw.2.2.2.2.1 hs14
              refine lv_aload_n hx hb dX10_book_84 rfl (lv_at hl 0 rfl) ?_
              refine g_get (k := 25) hE hG (kd_lt km0 (by decide)) (ce_10 km0) rfl (by decide +kernel) (by decide) (by decide +kernel) rfl rfl dX10_book_85 ?_
              refine lv_iload_n hx hb dX10_book_88 rfl (lv_at hl 1 rfl) ?_
              obtain ⟨hi13, hw⟩ := hw
              refine g_iald (n := 30) hE hG (kd_lt km21 (by decide)) (ce_int km21 (by decide) (by decide)) hi13 dX10_book_89 ?_
              exact g_iret hE hG hr hlk dX10_book_90 hw
            · skip
              by_cases hs17 : v2 = (5 : Int32)
              · refine lv_tableIn (tgt := 91) hx hb dX10_book_10 (by rw [hs17]; decide) (by rw [hs17]; decide) (by rw [hs17]; rfl) (by decide) ?_
                have hw := hw.2.2.2.2.2.1 hs17
                refine lv_aload_n hx hb dX10_book_91 rfl (lv_at hl 0 rfl) ?_
                refine lv_iload_n hx hb dX10_book_92 rfl (lv_at hl 1 rfl) ?_
                refine g_calli hG (g_runV (rm := rm_X10_sectionOf) (As := [.int v1]) (rest := []) (n := 1) hE hG (m_X10_sectionOf l X hw _) gX10_book_X10_sectionOf rfl rfl rfl (by decide +kernel) ⟨Nat.le_of_ble_eq_true rfl, Nat.le_of_ble_eq_true rfl⟩ (kd_lt km0 (by decide)) (ce_10 km0) rfl rfl rfl hl.1 (Nat.le_of_ble_eq_true rfl) dX10_book_93 ⟨Nat.zero_le _, Nat.zero_le _⟩) (fun r15 σ16 H locs hw hG => ?_)
                exact g_iret hE hG hr hlk dX10_book_96 hw
              · skip
                have hw := hw.2.2.2.2.2.2 hs5 hs7 hs10 hs12 hs14 hs17
                have q0 := lv_neT hs5 (a := 0) (by decide)
                have q1 := lv_neT hs7 (a := 1) (by decide)
                have q2 := lv_neT hs10 (a := 2) (by decide)
                have q3 := lv_neT hs12 (a := 3) (by decide)
                have q4 := lv_neT hs14 (a := 4) (by decide)
                have q5 := lv_neT hs17 (a := 5) (by decide)
                refine lv_tableOut (tgt := 97) hx hb dX10_book_10 (by omega) (by decide) ?_
                refine lv_iconst (v := (-1)) hx hb dX10_book_97 (by decide) ?_
                exact g_iret hE hG hr hlk dX10_book_98 hw
  · have hw := hw.2 hc3
    refine lv_iconst (v := (-1)) hx hb dX10_book_7 (by decide) ?_
    exact g_iret hE hG hr hlk dX10_book_8 hw

set_option maxHeartbeats 4000000 in
set_option maxRecDepth 100000 in
theorem m_X10_judgeOf (l : Launch) (X : wX) {Q : Int32 → St → Prop} {v1 : Int32} {σ : St} (hw : wp_X10_judgeOf Q v1 σ) : mI X kmL l yX10_judgeOf wsX10_judgeOf rm_X10_judgeOf [.ref (X.2.1 0), .int v1] σ Q := by
  refine mI.of (cc := cX10_judgeOf) (maxL := 3) (ret := (some .int)) (by decide +kernel) rfl (Nat.le_of_ble_eq_true rfl) ?_
  intro A p e s m args below meth c ls hE hr hlk hl hG
  have hx := hE.1.1
  have hb := hE.1.2.1
  unfold wp_X10_judgeOf at hw
  have hl : lv_has ls 3 [(0, .ref (X.2.1 0)), (1, .int v1)] := hl
  refine lv_aload_n hx hb dX10_judgeOf_0 rfl (lv_at hl 0 rfl) ?_
  refine g_get (k := 39) hE hG (kd_lt km0 (by decide)) (ce_10 km0) rfl (by decide +kernel) (by decide) (by decide +kernel) rfl rfl dX10_judgeOf_1 ?_
  refine lv_iload_n hx hb dX10_judgeOf_4 rfl (lv_at hl 1 rfl) ?_
  obtain ⟨hi1, hw⟩ := hw
  refine g_iald (n := 12) hE hG (kd_lt km28 (by decide)) (ce_int km28 (by decide) (by decide)) hi1 dX10_judgeOf_5 ?_
  refine lv_if_le (tgt := 16) hx hb dX10_judgeOf_6 (by decide) (fun hc2 => ?_) (fun hc2 => ?_)
  · have hw := hw.1 hc2
    refine lv_aload_n hx hb dX10_judgeOf_16 rfl (lv_at hl 0 rfl) ?_
    refine g_get (k := 37) hE hG (kd_lt km0 (by decide)) (ce_10 km0) rfl (by decide +kernel) (by decide) (by decide +kernel) rfl rfl dX10_judgeOf_17 ?_
    refine lv_iload_n hx hb dX10_judgeOf_20 rfl (lv_at hl 1 rfl) ?_
    obtain ⟨hi3, hw⟩ := hw
    refine g_iald (n := 12) hE hG (kd_lt km26 (by decide)) (ce_int km26 (by decide) (by decide)) hi3 dX10_judgeOf_21 ?_
    refine lv_aload_n hx hb dX10_judgeOf_22 rfl (lv_at hl 0 rfl) ?_
    refine g_get (k := 38) hE hG (kd_lt km0 (by decide)) (ce_10 km0) rfl (by decide +kernel) (by decide) (by decide +kernel) rfl rfl dX10_judgeOf_23 ?_
    refine lv_iload_n hx hb dX10_judgeOf_26 rfl (lv_at hl 1 rfl) ?_
    obtain ⟨hi4, hw⟩ := hw
    refine g_iald (n := 12) hE hG (kd_lt km27 (by decide)) (ce_int km27 (by decide) (by decide)) hi4 dX10_judgeOf_27 ?_
    refine lv_isub hx hb dX10_judgeOf_28 ?_
    refine lv_topi (fun x5 ex5 => ?_)
    have hw := hw x5 ex5
    refine lv_istore_n (lv' := [(2, .int x5), (0, .ref (X.2.1 0)), (1, .int v1)]) hx hb dX10_judgeOf_29 rfl hl (by decide) rfl (fun ls hl => ?_)
    refine lv_aload_n hx hb dX10_judgeOf_30 rfl (lv_at hl 1 rfl) ?_
    refine g_get (k := 23) hE hG (kd_lt km0 (by decide)) (ce_10 km0) rfl (by decide +kernel) (by decide) (by decide +kernel) rfl rfl dX10_judgeOf_31 ?_
    refine lv_aload_n hx hb dX10_judgeOf_34 rfl (lv_at hl 1 rfl) ?_
    refine g_get (k := 35) hE hG (kd_lt km0 (by decide)) (ce_10 km0) rfl (by decide +kernel) (by decide) (by decide +kernel) rfl rfl dX10_judgeOf_35 ?_
    refine lv_iload_n hx hb dX10_judgeOf_38 rfl (lv_at hl 2 rfl) ?_
    obtain ⟨hi6, hw⟩ := hw
    refine g_iald (n := 12) hE hG (kd_lt km24 (by decide)) (ce_int km24 (by decide) (by decide)) hi6 dX10_judgeOf_39 ?_
    obtain ⟨hi7, hw⟩ := hw
    refine g_zald (n := 30) hE hG (kd_lt km19 (by decide)) (ce_230 km19) hi7 dX10_judgeOf_40 ?_
    refine lv_if_eq (tgt := 48) hx hb dX10_judgeOf_41 (by decide) (fun hc8 => ?_) (fun hc8 => ?_)
    · have hw := hw.1 hc8
      refine lv_iload_n hx hb dX10_judgeOf_48 rfl (lv_at hl 0 rfl) ?_
      refine lv_bipush (v := (20)) hx hb dX10_judgeOf_49 (by decide) ?_
      refine lv_icmp_gt (tgt := 60) hx hb dX10_judgeOf_51 (by decide) (fun hc9 => ?_) (fun hc9 => ?_)
      · have hw := hw.1 hc9
        refine lv_bipush (v := (6)) hx hb dX10_judgeOf_60 (by decide) ?_
        refine lv_goto (tgt := 66) hx hb dX10_judgeOf_62 (by decide) ?_
        exact g_iret hE hG hr hlk dX10_judgeOf_66 hw
      · have hw := hw.2 hc9
        refine lv_iload_n hx hb dX10_judgeOf_54 rfl (lv_at hl 0 rfl) ?_
        refine lv_bipush (v := (-20)) hx hb dX10_judgeOf_55 (by decide) ?_
        refine lv_icmp_ge (tgt := 65) hx hb dX10_judgeOf_57 (by decide) (fun hc10 => ?_) (fun hc10 => ?_)
        · have hw := hw.1 hc10
          refine lv_iconst (v := 0) hx hb dX10_judgeOf_65 (by decide) ?_
          exact g_iret hE hG hr hlk dX10_judgeOf_66 hw
        · have hw := hw.2 hc10
          refine lv_bipush (v := (6)) hx hb dX10_judgeOf_60 (by decide) ?_
          refine lv_goto (tgt := 66) hx hb dX10_judgeOf_62 (by decide) ?_
          exact g_iret hE hG hr hlk dX10_judgeOf_66 hw
    · have hw := hw.2 hc8
      refine lv_iconst (v := 5) hx hb dX10_judgeOf_44 (by decide) ?_
      refine lv_goto (tgt := 66) hx hb dX10_judgeOf_45 (by decide) ?_
      exact g_iret hE hG hr hlk dX10_judgeOf_66 hw
  · have hw := hw.2 hc2
    refine lv_aload_n hx hb dX10_judgeOf_9 rfl (lv_at hl 0 rfl) ?_
    refine g_get (k := 39) hE hG (kd_lt km0 (by decide)) (ce_10 km0) rfl (by decide +kernel) (by decide) (by decide +kernel) rfl rfl dX10_judgeOf_10 ?_
    refine lv_iload_n hx hb dX10_judgeOf_13 rfl (lv_at hl 1 rfl) ?_
    obtain ⟨hi11, hw⟩ := hw
    refine g_iald (n := 12) hE hG (kd_lt km28 (by decide)) (ce_int km28 (by decide) (by decide)) hi11 dX10_judgeOf_14 ?_
    exact g_iret hE hG hr hlk dX10_judgeOf_15 hw

set_option maxHeartbeats 4000000 in
set_option maxRecDepth 100000 in
theorem b_X10_comeOff_147 {p : Program} {l : Launch} {e : Env} {s : State} {m : MethodId} {args : Array Value} {below : List Frame} {meth : Method} {c : Code} {X : wX} {A : Nat → Prop} (hE : eV p m c cX10_comeOff 3 s args wsX10_comeOff RX10 X) (hr : meth.sig.returnType = none) (hlk : meth.locks = false) {Q : St → Prop} : ∀ (n : Nat) (σ : St) (v2 : Int32) (H : Heap) (locs : List Loc) (ls : Array Slot), wl_X10_comeOff_147 Q n σ v2 → gW X kmL A s.heap σ H locs → lv_has ls 3 [(0, .ref (X.2.1 0)), (2, .int v2)] → W p l e rm_X10_comeOff s m args below meth c H locs 0 0 (zV X kmL below args s A Q) (F0 m 147 ls []) := by
  have hx := hE.1.1
  have hb := hE.1.2.1
  intro n
  induction n with
  | zero =>
    intro σ v2 H locs ls hw
    exact False.elim hw
  | succ n ih =>
    intro σ v2 H locs ls hw hG hl
    have hw : wB_X10_comeOff_147 Q (wl_X10_comeOff_147 Q n) σ v2 := hw
    unfold wB_X10_comeOff_147 at hw
    refine lv_iload_n hx hb dX10_comeOff_147 rfl (lv_at hl 1 rfl) ?_
    refine lv_aload_n hx hb dX10_comeOff_148 rfl (lv_at hl 0 rfl) ?_
    refine g_get (k := 32) hE hG (kd_lt km0 (by decide)) (ce_10 km0) rfl (by decide +kernel) (by decide) (by decide +kernel) rfl rfl dX10_comeOff_149 ?_
    refine lv_icmp_ge (tgt := 259) hx hb dX10_comeOff_152 (by decide) (fun hc19 => ?_) (fun hc19 => ?_)
    · have hw := hw.1 hc19
      exact g_vret hE hG hr hlk dX10_comeOff_259 hw
    · have hw := hw.2 hc19
      refine lv_aload_n hx hb dX10_comeOff_155 rfl (lv_at hl 0 rfl) ?_
      refine g_get (k := 33) hE hG (kd_lt km0 (by decide)) (ce_10 km0) rfl (by decide +kernel) (by decide) (by decide +kernel) rfl rfl dX10_comeOff_156 ?_
      refine lv_iload_n hx hb dX10_comeOff_159 rfl (lv_at hl 1 rfl) ?_
      refine lv_aload_n hx hb dX10_comeOff_160 rfl (lv_at hl 0 rfl) ?_
      refine g_get (k := 33) hE hG (kd_lt km0 (by decide)) (ce_10 km0) rfl (by decide +kernel) (by decide) (by decide +kernel) rfl rfl dX10_comeOff_161 ?_
      refine lv_iload_n hx hb dX10_comeOff_164 rfl (lv_at hl 1 rfl) ?_
      refine lv_iconst (v := 1) hx hb dX10_comeOff_165 (by decide) ?_
      refine lv_iadd hx hb dX10_comeOff_166 ?_
      obtain ⟨hi20, hw⟩ := hw
      refine g_iald (n := 12) hE hG (kd_lt km22 (by decide)) (ce_int km22 (by decide) (by decide)) hi20 dX10_comeOff_167 ?_
      obtain ⟨hi21, hw⟩ := hw
      refine g_iast (n := 12) hE hG (kd_lt km22 (by decide)) (fun _ => ce_int km22 (by decide) (by decide)) hi21 dX10_comeOff_168 (fun σ22 H locs eσ22 hG => ?_)
      have hw := hw σ22 eσ22
      refine lv_aload_n hx hb dX10_comeOff_169 rfl (lv_at hl 0 rfl) ?_
      refine g_get (k := 34) hE hG (kd_lt km0 (by decide)) (ce_10 km0) rfl (by decide +kernel) (by decide) (by decide +kernel) rfl rfl dX10_comeOff_170 ?_
      refine lv_iload_n hx hb dX10_comeOff_173 rfl (lv_at hl 1 rfl) ?_
      refine lv_aload_n hx hb dX10_comeOff_174 rfl (lv_at hl 0 rfl) ?_
      refine g_get (k := 34) hE hG (kd_lt km0 (by decide)) (ce_10 km0) rfl (by decide +kernel) (by decide) (by decide +kernel) rfl rfl dX10_comeOff_175 ?_
      refine lv_iload_n hx hb dX10_comeOff_178 rfl (lv_at hl 1 rfl) ?_
      refine lv_iconst (v := 1) hx hb dX10_comeOff_179 (by decide) ?_
      refine lv_iadd hx hb dX10_comeOff_180 ?_
      obtain ⟨hi23, hw⟩ := hw
      refine g_iald (n := 12) hE hG (kd_lt km23 (by decide)) (ce_int km23 (by decide) (by decide)) hi23 dX10_comeOff_181 ?_
      obtain ⟨hi24, hw⟩ := hw
      refine g_iast (n := 12) hE hG (kd_lt km23 (by decide)) (fun _ => ce_int km23 (by decide) (by decide)) hi24 dX10_comeOff_182 (fun σ25 H locs eσ25 hG => ?_)
      have hw := hw σ25 eσ25
      refine lv_aload_n hx hb dX10_comeOff_183 rfl (lv_at hl 0 rfl) ?_
      refine g_get (k := 35) hE hG (kd_lt km0 (by decide)) (ce_10 km0) rfl (by decide +kernel) (by decide) (by decide +kernel) rfl rfl dX10_comeOff_184 ?_
      refine lv_iload_n hx hb dX10_comeOff_187 rfl (lv_at hl 1 rfl) ?_
      refine lv_aload_n hx hb dX10_comeOff_188 rfl (lv_at hl 0 rfl) ?_
      refine g_get (k := 35) hE hG (kd_lt km0 (by decide)) (ce_10 km0) rfl (by decide +kernel) (by decide) (by decide +kernel) rfl rfl dX10_comeOff_189 ?_
      refine lv_iload_n hx hb dX10_comeOff_192 rfl (lv_at hl 1 rfl) ?_
      refine lv_iconst (v := 1) hx hb dX10_comeOff_193 (by decide) ?_
      refine lv_iadd hx hb dX10_comeOff_194 ?_
      obtain ⟨hi26, hw⟩ := hw
      refine g_iald (n := 12) hE hG (kd_lt km24 (by decide)) (ce_int km24 (by decide) (by decide)) hi26 dX10_comeOff_195 ?_
      obtain ⟨hi27, hw⟩ := hw
      refine g_iast (n := 12) hE hG (kd_lt km24 (by decide)) (fun _ => ce_int km24 (by decide) (by decide)) hi27 dX10_comeOff_196 (fun σ28 H locs eσ28 hG => ?_)
      have hw := hw σ28 eσ28
      refine lv_aload_n hx hb dX10_comeOff_197 rfl (lv_at hl 0 rfl) ?_
      refine g_get (k := 36) hE hG (kd_lt km0 (by decide)) (ce_10 km0) rfl (by decide +kernel) (by decide) (by decide +kernel) rfl rfl dX10_comeOff_198 ?_
      refine lv_iload_n hx hb dX10_comeOff_201 rfl (lv_at hl 1 rfl) ?_
      refine lv_aload_n hx hb dX10_comeOff_202 rfl (lv_at hl 0 rfl) ?_
      refine g_get (k := 36) hE hG (kd_lt km0 (by decide)) (ce_10 km0) rfl (by decide +kernel) (by decide) (by decide +kernel) rfl rfl dX10_comeOff_203 ?_
      refine lv_iload_n hx hb dX10_comeOff_206 rfl (lv_at hl 1 rfl) ?_
      refine lv_iconst (v := 1) hx hb dX10_comeOff_207 (by decide) ?_
      refine lv_iadd hx hb dX10_comeOff_208 ?_
      obtain ⟨hi29, hw⟩ := hw
      refine g_iald (n := 12) hE hG (kd_lt km25 (by decide)) (ce_int km25 (by decide) (by decide)) hi29 dX10_comeOff_209 ?_
      obtain ⟨hi30, hw⟩ := hw
      refine g_iast (n := 12) hE hG (kd_lt km25 (by decide)) (fun _ => ce_int km25 (by decide) (by decide)) hi30 dX10_comeOff_210 (fun σ31 H locs eσ31 hG => ?_)
      have hw := hw σ31 eσ31
      refine lv_aload_n hx hb dX10_comeOff_211 rfl (lv_at hl 0 rfl) ?_
      refine g_get (k := 37) hE hG (kd_lt km0 (by decide)) (ce_10 km0) rfl (by decide +kernel) (by decide) (by decide +kernel) rfl rfl dX10_comeOff_212 ?_
      refine lv_iload_n hx hb dX10_comeOff_215 rfl (lv_at hl 1 rfl) ?_
      refine lv_aload_n hx hb dX10_comeOff_216 rfl (lv_at hl 0 rfl) ?_
      refine g_get (k := 37) hE hG (kd_lt km0 (by decide)) (ce_10 km0) rfl (by decide +kernel) (by decide) (by decide +kernel) rfl rfl dX10_comeOff_217 ?_
      refine lv_iload_n hx hb dX10_comeOff_220 rfl (lv_at hl 1 rfl) ?_
      refine lv_iconst (v := 1) hx hb dX10_comeOff_221 (by decide) ?_
      refine lv_iadd hx hb dX10_comeOff_222 ?_
      obtain ⟨hi32, hw⟩ := hw
      refine g_iald (n := 12) hE hG (kd_lt km26 (by decide)) (ce_int km26 (by decide) (by decide)) hi32 dX10_comeOff_223 ?_
      obtain ⟨hi33, hw⟩ := hw
      refine g_iast (n := 12) hE hG (kd_lt km26 (by decide)) (fun _ => ce_int km26 (by decide) (by decide)) hi33 dX10_comeOff_224 (fun σ34 H locs eσ34 hG => ?_)
      have hw := hw σ34 eσ34
      refine lv_aload_n hx hb dX10_comeOff_225 rfl (lv_at hl 0 rfl) ?_
      refine g_get (k := 38) hE hG (kd_lt km0 (by decide)) (ce_10 km0) rfl (by decide +kernel) (by decide) (by decide +kernel) rfl rfl dX10_comeOff_226 ?_
      refine lv_iload_n hx hb dX10_comeOff_229 rfl (lv_at hl 1 rfl) ?_
      refine lv_aload_n hx hb dX10_comeOff_230 rfl (lv_at hl 0 rfl) ?_
      refine g_get (k := 38) hE hG (kd_lt km0 (by decide)) (ce_10 km0) rfl (by decide +kernel) (by decide) (by decide +kernel) rfl rfl dX10_comeOff_231 ?_
      refine lv_iload_n hx hb dX10_comeOff_234 rfl (lv_at hl 1 rfl) ?_
      refine lv_iconst (v := 1) hx hb dX10_comeOff_235 (by decide) ?_
      refine lv_iadd hx hb dX10_comeOff_236 ?_
      obtain ⟨hi35, hw⟩ := hw
      refine g_iald (n := 12) hE hG (kd_lt km27 (by decide)) (ce_int km27 (by decide) (by decide)) hi35 dX10_comeOff_237 ?_
      obtain ⟨hi36, hw⟩ := hw
      refine g_iast (n := 12) hE hG (kd_lt km27 (by decide)) (fun _ => ce_int km27 (by decide) (by decide)) hi36 dX10_comeOff_238 (fun σ37 H locs eσ37 hG => ?_)
      have hw := hw σ37 eσ37
      refine lv_aload_n hx hb dX10_comeOff_239 rfl (lv_at hl 0 rfl) ?_
      refine g_get (k := 39) hE hG (kd_lt km0 (by decide)) (ce_10 km0) rfl (by decide +kernel) (by decide) (by decide +kernel) rfl rfl dX10_comeOff_240 ?_
      refine lv_iload_n hx hb dX10_comeOff_243 rfl (lv_at hl 1 rfl) ?_
      refine lv_aload_n hx hb dX10_comeOff_244 rfl (lv_at hl 0 rfl) ?_
      refine g_get (k := 39) hE hG (kd_lt km0 (by decide)) (ce_10 km0) rfl (by decide +kernel) (by decide) (by decide +kernel) rfl rfl dX10_comeOff_245 ?_
      refine lv_iload_n hx hb dX10_comeOff_248 rfl (lv_at hl 1 rfl) ?_
      refine lv_iconst (v := 1) hx hb dX10_comeOff_249 (by decide) ?_
      refine lv_iadd hx hb dX10_comeOff_250 ?_
      obtain ⟨hi38, hw⟩ := hw
      refine g_iald (n := 12) hE hG (kd_lt km28 (by decide)) (ce_int km28 (by decide) (by decide)) hi38 dX10_comeOff_251 ?_
      obtain ⟨hi39, hw⟩ := hw
      refine g_iast (n := 12) hE hG (kd_lt km28 (by decide)) (fun _ => ce_int km28 (by decide) (by decide)) hi39 dX10_comeOff_252 (fun σ40 H locs eσ40 hG => ?_)
      have hw := hw σ40 eσ40
      obtain ⟨x41, ex41⟩ : ∃ z : Int32, z = v2 + (1 : Int32) := ⟨_, rfl⟩
      have hw := hw x41 ex41
      refine lv_iinc (v := x41) (lv' := [(2, .int x41), (0, .ref (X.2.1 0))]) hx hb dX10_comeOff_253 hl (k := 1) rfl (by rw [ex41]; rfl) (by decide) rfl (fun ls hl => ?_)
      refine lv_goto (tgt := 147) hx hb dX10_comeOff_256 (by decide) ?_
      exact ih _ _ _ _ _ hw hG (lv_sub hl [1, 0] rfl)

set_option maxHeartbeats 4000000 in
set_option maxRecDepth 100000 in
theorem b_X10_comeOff_135 {p : Program} {l : Launch} {e : Env} {s : State} {m : MethodId} {args : Array Value} {below : List Frame} {meth : Method} {c : Code} {X : wX} {A : Nat → Prop} {H : Heap} {locs : List Loc} {ls : Array Slot} {σ : St} (hE : eV p m c cX10_comeOff 3 s args wsX10_comeOff RX10 X) (hr : meth.sig.returnType = none) (hlk : meth.locks = false) {Q : St → Prop} (hw : wb_X10_comeOff_135 Q σ) (hG : gW X kmL A s.heap σ H locs) (hl : lv_has ls 3 [(0, .ref (X.2.1 0))]) : W p l e rm_X10_comeOff s m args below meth c H locs 0 0 (zV X kmL below args s A Q) (F0 m 135 ls []) := by
  have hx := hE.1.1
  have hb := hE.1.2.1
  unfold wb_X10_comeOff_135 at hw
  refine lv_aload_n hx hb dX10_comeOff_135 rfl (lv_at hl 0 rfl) ?_
  refine lv_dup hx hb dX10_comeOff_136 rfl ?_
  refine g_get (k := 32) hE hG (kd_lt km0 (by decide)) (ce_10 km0) rfl (by decide +kernel) (by decide) (by decide +kernel) rfl rfl dX10_comeOff_137 ?_
  refine lv_iconst (v := 1) hx hb dX10_comeOff_140 (by decide) ?_
  refine lv_isub hx hb dX10_comeOff_141 ?_
  refine g_put (k := 32) (x := ((σ 0 32) - (1 : Int32))) (ty := .int) hE hG (kd_lt km0 (by decide)) (ce_10 km0) (by rw [ce_10 km0]; rfl) rfl (by decide +kernel) tyX10 tyX10_ok nmX10 (by decide) (by decide +kernel) rfl rfl (by decide +kernel) rfl rfl (Nat.le_of_ble_eq_true rfl) dX10_comeOff_142 (fun σ18 H locs eσ18 hG => ?_)
  have hw := hw σ18 eσ18
  refine lv_iconst (v := 0) hx hb dX10_comeOff_145 (by decide) ?_
  refine lv_istore_n (lv' := [(2, .int (0 : Int32)), (0, .ref (X.2.1 0))]) hx hb dX10_comeOff_146 rfl hl (by decide) rfl (fun ls hl => ?_)
  obtain ⟨n, hw⟩ := hw
  exact b_X10_comeOff_147 hE hr hlk n _ _ _ _ _ hw hG (lv_sub hl [1, 0] rfl)

set_option maxHeartbeats 4000000 in
set_option maxRecDepth 100000 in
theorem b_X10_comeOff_132 {p : Program} {l : Launch} {e : Env} {s : State} {m : MethodId} {args : Array Value} {below : List Frame} {meth : Method} {c : Code} {X : wX} {A : Nat → Prop} {H : Heap} {locs : List Loc} {ls : Array Slot} {σ : St} (hE : eV p m c cX10_comeOff 3 s args wsX10_comeOff RX10 X) (hr : meth.sig.returnType = none) (hlk : meth.locks = false) {Q : St → Prop} {z0 : Int32} (hw : wb_X10_comeOff_132 Q z0 σ) (hG : gW X kmL A s.heap σ H locs) (hl : lv_has ls 3 [(0, .ref (X.2.1 0))]) : W p l e rm_X10_comeOff s m args below meth c H locs 0 0 (zV X kmL below args s A Q) (F0 m 132 ls [.int z0, .ref (X.2.1 0)]) := by
  have hx := hE.1.1
  have hb := hE.1.2.1
  unfold wb_X10_comeOff_132 at hw
  refine g_put (k := 26) (x := z0) (ty := .int) hE hG (kd_lt km0 (by decide)) (ce_10 km0) (by rw [ce_10 km0]; rfl) rfl (by decide +kernel) tyX10 tyX10_ok nmX10 (by decide) (by decide +kernel) rfl rfl (by decide +kernel) rfl rfl (Nat.le_of_ble_eq_true rfl) dX10_comeOff_132 (fun σ47 H locs eσ47 hG => ?_)
  have hw := hw σ47 eσ47
  exact b_X10_comeOff_135 hE hr hlk hw hG (lv_sub hl [0] rfl)

set_option maxHeartbeats 4000000 in
set_option maxRecDepth 100000 in
theorem b_X10_comeOff_60 {p : Program} {l : Launch} {e : Env} {s : State} {m : MethodId} {args : Array Value} {below : List Frame} {meth : Method} {c : Code} {X : wX} {A : Nat → Prop} {H : Heap} {locs : List Loc} {ls : Array Slot} {σ : St} (hE : eV p m c cX10_comeOff 3 s args wsX10_comeOff RX10 X) (hr : meth.sig.returnType = none) (hlk : meth.locks = false) {Q : St → Prop} {z0 : Int32} {z1 : Int32} {z2 : Int32} (hw : wb_X10_comeOff_60 Q z0 z1 z2 σ) (hG : gW X kmL A s.heap σ H locs) (hl : lv_has ls 3 [(0, .ref (X.2.1 0))]) : W p l e rm_X10_comeOff s m args below meth c H locs 0 0 (zV X kmL below args s A Q) (F0 m 60 ls [.int z0, .int z1, .int z2, .ref (X.2.1 21)]) := by
  have hx := hE.1.1
  have hb := hE.1.2.1
  unfold wb_X10_comeOff_60 at hw
  refine lv_iadd hx hb dX10_comeOff_60 ?_
  obtain ⟨hi14, hw⟩ := hw
  refine g_iast (n := 30) hE hG (kd_lt km21 (by decide)) (fun _ => ce_int km21 (by decide) (by decide)) hi14 dX10_comeOff_61 (fun σ15 H locs eσ15 hG => ?_)
  have hw := hw σ15 eσ15
  refine lv_aload_n hx hb dX10_comeOff_62 rfl (lv_at hl 0 rfl) ?_
  refine g_get (k := 33) hE hG (kd_lt km0 (by decide)) (ce_10 km0) rfl (by decide +kernel) (by decide) (by decide +kernel) rfl rfl dX10_comeOff_63 ?_
  refine lv_iconst (v := 0) hx hb dX10_comeOff_66 (by decide) ?_
  obtain ⟨hi16, hw⟩ := hw
  refine g_iald (n := 12) hE hG (kd_lt km22 (by decide)) (ce_int km22 (by decide) (by decide)) hi16 dX10_comeOff_67 ?_
  refine lv_iconst (v := 4) hx hb dX10_comeOff_68 (by decide) ?_
  refine lv_irem hx hb dX10_comeOff_69 (by decide) ?_
  refine lv_if_ne (tgt := 135) hx hb dX10_comeOff_70 (by decide) (fun hc17 => ?_) (fun hc17 => ?_)
  · have hw := hw.1 hc17
    exact b_X10_comeOff_135 hE hr hlk hw hG (lv_sub hl [0] rfl)
  · have hw := hw.2 hc17
    refine lv_aload_n hx hb dX10_comeOff_73 rfl (lv_at hl 0 rfl) ?_
    refine lv_dup hx hb dX10_comeOff_74 rfl ?_
    refine g_get (k := 26) hE hG (kd_lt km0 (by decide)) (ce_10 km0) rfl (by decide +kernel) (by decide) (by decide +kernel) rfl rfl dX10_comeOff_75 ?_
    refine lv_aload_n hx hb dX10_comeOff_78 rfl (lv_at hl 0 rfl) ?_
    refine g_get (k := 38) hE hG (kd_lt km0 (by decide)) (ce_10 km0) rfl (by decide +kernel) (by decide) (by decide +kernel) rfl rfl dX10_comeOff_79 ?_
    refine lv_iconst (v := 0) hx hb dX10_comeOff_82 (by decide) ?_
    obtain ⟨hi42, hw⟩ := hw
    refine g_iald (n := 12) hE hG (kd_lt km27 (by decide)) (ce_int km27 (by decide) (by decide)) hi42 dX10_comeOff_83 ?_
    refine lv_aload_n hx hb dX10_comeOff_84 rfl (lv_at hl 0 rfl) ?_
    refine g_get (k := 37) hE hG (kd_lt km0 (by decide)) (ce_10 km0) rfl (by decide +kernel) (by decide) (by decide +kernel) rfl rfl dX10_comeOff_85 ?_
    refine lv_iconst (v := 0) hx hb dX10_comeOff_88 (by decide) ?_
    obtain ⟨hi43, hw⟩ := hw
    refine g_iald (n := 12) hE hG (kd_lt km26 (by decide)) (ce_int km26 (by decide) (by decide)) hi43 dX10_comeOff_89 ?_
    refine lv_isub hx hb dX10_comeOff_90 ?_
    refine lv_iconst (v := 2) hx hb dX10_comeOff_91 (by decide) ?_
    refine lv_idiv hx hb dX10_comeOff_92 (by decide) ?_
    refine lv_iadd hx hb dX10_comeOff_93 ?_
    refine g_put (k := 26) (x := ((σ15 0 26) + (((σ15 27 (0 : Int32).toNatClampNeg) - (σ15 26 (0 : Int32).toNatClampNeg)) / (2 : Int32)))) (ty := .int) hE hG (kd_lt km0 (by decide)) (ce_10 km0) (by rw [ce_10 km0]; rfl) rfl (by decide +kernel) tyX10 tyX10_ok nmX10 (by decide) (by decide +kernel) rfl rfl (by decide +kernel) rfl rfl (Nat.le_of_ble_eq_true rfl) dX10_comeOff_94 (fun σ44 H locs eσ44 hG => ?_)
    have hw := hw σ44 eσ44
    refine lv_aload_n hx hb dX10_comeOff_97 rfl (lv_at hl 0 rfl) ?_
    refine lv_aload_n hx hb dX10_comeOff_98 rfl (lv_at hl 0 rfl) ?_
    refine g_get (k := 26) hE hG (kd_lt km0 (by decide)) (ce_10 km0) rfl (by decide +kernel) (by decide) (by decide +kernel) rfl rfl dX10_comeOff_99 ?_
    refine lv_bipush (v := (100)) hx hb dX10_comeOff_102 (by decide) ?_
    refine lv_icmp_ge (tgt := 112) hx hb dX10_comeOff_104 (by decide) (fun hc45 => ?_) (fun hc45 => ?_)
    · have hw := hw.1 hc45
      refine lv_aload_n hx hb dX10_comeOff_112 rfl (lv_at hl 0 rfl) ?_
      refine g_get (k := 26) hE hG (kd_lt km0 (by decide)) (ce_10 km0) rfl (by decide +kernel) (by decide) (by decide +kernel) rfl rfl dX10_comeOff_113 ?_
      refine lv_sipush (v := (900)) hx hb dX10_comeOff_116 (by decide) ?_
      refine lv_icmp_le (tgt := 128) hx hb dX10_comeOff_119 (by decide) (fun hc46 => ?_) (fun hc46 => ?_)
      · have hw := hw.1 hc46
        refine lv_aload_n hx hb dX10_comeOff_128 rfl (lv_at hl 0 rfl) ?_
        refine g_get (k := 26) hE hG (kd_lt km0 (by decide)) (ce_10 km0) rfl (by decide +kernel) (by decide) (by decide +kernel) rfl rfl dX10_comeOff_129 ?_
        exact b_X10_comeOff_132 hE hr hlk hw hG (lv_sub hl [0] rfl)
      · have hw := hw.2 hc46
        refine lv_sipush (v := (900)) hx hb dX10_comeOff_122 (by decide) ?_
        refine lv_goto (tgt := 132) hx hb dX10_comeOff_125 (by decide) ?_
        exact b_X10_comeOff_132 hE hr hlk hw hG (lv_sub hl [0] rfl)
    · have hw := hw.2 hc45
      refine lv_bipush (v := (100)) hx hb dX10_comeOff_107 (by decide) ?_
      refine lv_goto (tgt := 132) hx hb dX10_comeOff_109 (by decide) ?_
      exact b_X10_comeOff_132 hE hr hlk hw hG (lv_sub hl [0] rfl)

set_option maxHeartbeats 4000000 in
set_option maxRecDepth 100000 in
theorem b_X10_comeOff_37 {p : Program} {l : Launch} {e : Env} {s : State} {m : MethodId} {args : Array Value} {below : List Frame} {meth : Method} {c : Code} {X : wX} {A : Nat → Prop} {H : Heap} {locs : List Loc} {ls : Array Slot} {σ : St} (hE : eV p m c cX10_comeOff 3 s args wsX10_comeOff RX10 X) (hr : meth.sig.returnType = none) (hlk : meth.locks = false) {Q : St → Prop} {v1 : Int32} {z0 : Int32} {z1 : Int32} {z2 : Int32} (hw : wb_X10_comeOff_37 Q v1 z0 z1 z2 σ) (hG : gW X kmL A s.heap σ H locs) (hl : lv_has ls 3 [(0, .ref (X.2.1 0)), (1, .int v1)]) : W p l e rm_X10_comeOff s m args below meth c H locs 0 0 (zV X kmL below args s A Q) (F0 m 37 ls [.int z0, .int z1, .int z2, .ref (X.2.1 20)]) := by
  have hx := hE.1.1
  have hb := hE.1.2.1
  unfold wb_X10_comeOff_37 at hw
  refine lv_iadd hx hb dX10_comeOff_37 ?_
  obtain ⟨hi9, hw⟩ := hw
  refine g_iast (n := 30) hE hG (kd_lt km20 (by decide)) (fun _ => ce_int km20 (by decide) (by decide)) hi9 dX10_comeOff_38 (fun σ10 H locs eσ10 hG => ?_)
  have hw := hw σ10 eσ10
  refine lv_aload_n hx hb dX10_comeOff_39 rfl (lv_at hl 0 rfl) ?_
  refine g_get (k := 25) hE hG (kd_lt km0 (by decide)) (ce_10 km0) rfl (by decide +kernel) (by decide) (by decide +kernel) rfl rfl dX10_comeOff_40 ?_
  refine lv_aload_n hx hb dX10_comeOff_43 rfl (lv_at hl 0 rfl) ?_
  refine g_get (k := 35) hE hG (kd_lt km0 (by decide)) (ce_10 km0) rfl (by decide +kernel) (by decide) (by decide +kernel) rfl rfl dX10_comeOff_44 ?_
  refine lv_iconst (v := 0) hx hb dX10_comeOff_47 (by decide) ?_
  obtain ⟨hi11, hw⟩ := hw
  refine g_iald (n := 12) hE hG (kd_lt km24 (by decide)) (ce_int km24 (by decide) (by decide)) hi11 dX10_comeOff_48 ?_
  refine lv_dup2_11 hx hb dX10_comeOff_49 rfl rfl ?_
  obtain ⟨hi12, hw⟩ := hw
  refine g_iald (n := 30) hE hG (kd_lt km21 (by decide)) (ce_int km21 (by decide) (by decide)) hi12 dX10_comeOff_50 ?_
  refine lv_iload_n hx hb dX10_comeOff_51 rfl (lv_at hl 1 rfl) ?_
  refine lv_if_ne (tgt := 59) hx hb dX10_comeOff_52 (by decide) (fun hc13 => ?_) (fun hc13 => ?_)
  · have hw := hw.1 hc13
    refine lv_iconst (v := 1) hx hb dX10_comeOff_59 (by decide) ?_
    exact b_X10_comeOff_60 hE hr hlk hw hG (lv_sub hl [0] rfl)
  · have hw := hw.2 hc13
    refine lv_iconst (v := 0) hx hb dX10_comeOff_55 (by decide) ?_
    refine lv_goto (tgt := 60) hx hb dX10_comeOff_56 (by decide) ?_
    exact b_X10_comeOff_60 hE hr hlk hw hG (lv_sub hl [0] rfl)

set_option maxHeartbeats 4000000 in
set_option maxRecDepth 100000 in
theorem m_X10_comeOff (l : Launch) (X : wX) {Q : St → Prop} {σ : St} (hw : wp_X10_comeOff Q σ) : mV X kmL l yX10_comeOff wsX10_comeOff rm_X10_comeOff [.ref (X.2.1 0)] σ Q := by
  refine mV.of (cc := cX10_comeOff) (maxL := 3) (ret := none) (by decide +kernel) rfl (Nat.le_of_ble_eq_true rfl) ?_
  intro A p e s m args below meth c ls hE hr hlk hl hG
  have hx := hE.1.1
  have hb := hE.1.2.1
  unfold wp_X10_comeOff at hw
  have hl : lv_has ls 3 [(0, .ref (X.2.1 0))] := hl
  refine lv_aload_n hx hb dX10_comeOff_0 rfl (lv_at hl 0 rfl) ?_
  refine lv_iconst (v := 0) hx hb dX10_comeOff_1 (by decide) ?_
  refine g_calli hG (g_runV (rm := rm_X10_judgeOf) (As := [.int (0 : Int32)]) (rest := []) (n := 1) hE hG (m_X10_judgeOf l X hw _) gX10_comeOff_X10_judgeOf rfl rfl rfl (by decide +kernel) ⟨Nat.le_of_ble_eq_true rfl, Nat.le_of_ble_eq_true rfl⟩ (kd_lt km0 (by decide)) (ce_10 km0) rfl rfl rfl hl.1 (Nat.le_of_ble_eq_true rfl) dX10_comeOff_2 ⟨Nat.zero_le _, Nat.zero_le _⟩) (fun r1 σ2 H locs hw hG => ?_)
  refine lv_istore_n (lv' := [(1, .int r1), (0, .ref (X.2.1 0))]) hx hb dX10_comeOff_5 rfl hl (by decide) rfl (fun ls hl => ?_)
  refine lv_aload_n hx hb dX10_comeOff_6 rfl (lv_at hl 1 rfl) ?_
  refine g_get (k := 40) hE hG (kd_lt km0 (by decide)) (ce_10 km0) rfl (by decide +kernel) (by decide) (by decide +kernel) rfl rfl dX10_comeOff_7 ?_
  refine lv_iload_n hx hb dX10_comeOff_10 rfl (lv_at hl 0 rfl) ?_
  refine lv_dup2_11 hx hb dX10_comeOff_11 rfl rfl ?_
  obtain ⟨hi3, hw⟩ := hw
  refine g_iald (n := 7) hE hG (kd_lt km29 (by decide)) (ce_int km29 (by decide) (by decide)) hi3 dX10_comeOff_12 ?_
  refine lv_iconst (v := 1) hx hb dX10_comeOff_13 (by decide) ?_
  refine lv_iadd hx hb dX10_comeOff_14 ?_
  obtain ⟨hi4, hw⟩ := hw
  refine g_iast (n := 7) hE hG (kd_lt km29 (by decide)) (fun _ => ce_int km29 (by decide) (by decide)) hi4 dX10_comeOff_15 (fun σ5 H locs eσ5 hG => ?_)
  have hw := hw σ5 eσ5
  refine lv_aload_n hx hb dX10_comeOff_16 rfl (lv_at hl 1 rfl) ?_
  refine g_get (k := 24) hE hG (kd_lt km0 (by decide)) (ce_10 km0) rfl (by decide +kernel) (by decide) (by decide +kernel) rfl rfl dX10_comeOff_17 ?_
  refine lv_aload_n hx hb dX10_comeOff_20 rfl (lv_at hl 1 rfl) ?_
  refine g_get (k := 35) hE hG (kd_lt km0 (by decide)) (ce_10 km0) rfl (by decide +kernel) (by decide) (by decide +kernel) rfl rfl dX10_comeOff_21 ?_
  refine lv_iconst (v := 0) hx hb dX10_comeOff_24 (by decide) ?_
  obtain ⟨hi6, hw⟩ := hw
  refine g_iald (n := 12) hE hG (kd_lt km24 (by decide)) (ce_int km24 (by decide) (by decide)) hi6 dX10_comeOff_25 ?_
  refine lv_dup2_11 hx hb dX10_comeOff_26 rfl rfl ?_
  obtain ⟨hi7, hw⟩ := hw
  refine g_iald (n := 30) hE hG (kd_lt km20 (by decide)) (ce_int km20 (by decide) (by decide)) hi7 dX10_comeOff_27 ?_
  refine lv_iload_n hx hb dX10_comeOff_28 rfl (lv_at hl 0 rfl) ?_
  refine lv_if_ne (tgt := 36) hx hb dX10_comeOff_29 (by decide) (fun hc8 => ?_) (fun hc8 => ?_)
  · have hw := hw.1 hc8
    refine lv_iconst (v := 0) hx hb dX10_comeOff_36 (by decide) ?_
    exact b_X10_comeOff_37 hE hr hlk hw hG (lv_sub hl [1, 0] rfl)
  · have hw := hw.2 hc8
    refine lv_iconst (v := 1) hx hb dX10_comeOff_32 (by decide) ?_
    refine lv_goto (tgt := 37) hx hb dX10_comeOff_33 (by decide) ?_
    exact b_X10_comeOff_37 hE hr hlk hw hG (lv_sub hl [1, 0] rfl)

