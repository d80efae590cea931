/-! contracts, by program -/
set_option maxHeartbeats 4000000 in
set_option maxRecDepth 100000 in
theorem m_X10_repeal (l : Launch) (X : wX) {Q : Int32 → St → Prop} {σ : St} (hw : wp_X10_repeal Q σ) : mI X kmL l yX10_repeal wsX10_repeal rm_X10_repeal [.ref (X.2.1 0)] σ Q := by
  refine mI.of (cc := cX10_repeal) (maxL := 1) (ret := (some .int)) (by decide +kernel) rfl (Nat.le_of_ble_eq_true rfl) ?_
  intro A p e s m args below meth c ls hE hr hlk hl hG
  have hx := hE.1.1
  have hb := hE.1.2.1
  unfold wp_X10_repeal at hw
  have hl : lv_has ls 1 [(0, .ref (X.2.1 0))] := hl
  refine lv_aload_n hx hb dX10_repeal_0 rfl (lv_at hl 0 rfl) ?_
  refine g_get (k := 2) hE hG (kd_lt km0 (by decide)) (ce_10 km0) rfl (by decide +kernel) (by decide) (by decide +kernel) rfl rfl dX10_repeal_1 ?_
  refine lv_if_ne (tgt := 10) hx hb dX10_repeal_4 (by decide) (fun hc1 => ?_) (fun hc1 => ?_)
  · have hw := hw.1 hc1
    refine lv_aload_n hx hb dX10_repeal_10 rfl (lv_at hl 0 rfl) ?_
    refine lv_dup hx hb dX10_repeal_11 rfl ?_
    refine g_get (k := 2) hE hG (kd_lt km0 (by decide)) (ce_10 km0) rfl (by decide +kernel) (by decide) (by decide +kernel) rfl rfl dX10_repeal_12 ?_
    refine lv_iconst (v := 1) hx hb dX10_repeal_15 (by decide) ?_
    refine lv_isub hx hb dX10_repeal_16 ?_
    refine g_put (k := 2) (x := ((σ 0 2) - (1 : Int32))) (ty := .int) hE hG (kd_lt km0 (by decide)) (ce_10 km0) (by rw [ce_10 km0]; rfl) rfl (by decide +kernel) tyX10 tyX10_ok nmX10 (by decide) (by decide +kernel) rfl rfl (by decide +kernel) rfl rfl (Nat.le_of_ble_eq_true rfl) dX10_repeal_17 (fun σ2 H locs eσ2 hG => ?_)
    have hw := hw σ2 eσ2
    refine lv_aload_n hx hb dX10_repeal_20 rfl (lv_at hl 0 rfl) ?_
    refine g_get (k := 2) hE hG (kd_lt km0 (by decide)) (ce_10 km0) rfl (by decide +kernel) (by decide) (by decide +kernel) rfl rfl dX10_repeal_21 ?_
    exact g_iret hE hG hr hlk dX10_repeal_24 hw
  · have hw := hw.2 hc1
    refine lv_bipush (v := (-4)) hx hb dX10_repeal_7 (by decide) ?_
    exact g_iret hE hG hr hlk dX10_repeal_9 hw

set_option maxHeartbeats 4000000 in
set_option maxRecDepth 100000 in
theorem m_X10_pace (l : Launch) (X : wX) {Q : Int32 → St → Prop} {v1 : Int32} {σ : St} (hw : wp_X10_pace Q v1 σ) : mI X kmL l yX10_pace wsX10_pace rm_X10_pace [.ref (X.2.1 0), .int v1] σ Q := by
  refine mI.of (cc := cX10_pace) (maxL := 4) (ret := (some .int)) (by decide +kernel) rfl (Nat.le_of_ble_eq_true rfl) ?_
  intro A p e s m args below meth c ls hE hr hlk hl hG
  have hx := hE.1.1
  have hb := hE.1.2.1
  unfold wp_X10_pace at hw
  have hl : lv_has ls 4 [(0, .ref (X.2.1 0)), (1, .int v1)] := hl
  refine lv_iload_n hx hb dX10_pace_0 rfl (lv_at hl 1 rfl) ?_
  refine lv_iconst (v := 1) hx hb dX10_pace_1 (by decide) ?_
  refine lv_bipush (v := (60)) hx hb dX10_pace_2 (by decide) ?_
  refine g_calli hG (g_runS (rm := rm_X10_in) (As := [.int v1, .int (1 : Int32), .int (60 : Int32)]) (rest := []) (n := 3) hE hG (m_X10_in l X hw _) gX10_pace_X10_in rfl rfl rfl (by decide +kernel) ⟨Nat.le_of_ble_eq_true rfl, Nat.le_of_ble_eq_true rfl⟩ rfl hl.1 (Nat.le_of_ble_eq_true rfl) dX10_pace_4 ⟨Nat.zero_le _, Nat.zero_le _⟩) (fun r1 σ2 H locs hw hG => ?_)
  refine lv_if_ne (tgt := 12) hx hb dX10_pace_7 (by decide) (fun hc3 => ?_) (fun hc3 => ?_)
  · have hw := hw.1 hc3
    refine lv_aload_n hx hb dX10_pace_12 rfl (lv_at hl 0 rfl) ?_
    refine lv_iload_n hx hb dX10_pace_13 rfl (lv_at hl 1 rfl) ?_
    refine g_calli hG (g_runV (rm := rm_X10_brokenAt) (As := [.int v1]) (rest := []) (n := 1) hE hG (m_X10_brokenAt l X hw _) gX10_pace_X10_brokenAt rfl rfl rfl (by decide +kernel) ⟨Nat.le_of_ble_eq_true rfl, Nat.le_of_ble_eq_true rfl⟩ (kd_lt km0 (by decide)) (ce_10 km0) rfl rfl rfl hl.1 (Nat.le_of_ble_eq_true rfl) dX10_pace_14 ⟨Nat.zero_le _, Nat.zero_le _⟩) (fun r4 σ5 H locs hw hG => ?_)
    refine lv_istore_n (lv' := [(2, .int r4), (0, .ref (X.2.1 0)), (1, .int v1)]) hx hb dX10_pace_17 rfl hl (by decide) rfl (fun ls hl => ?_)
    refine lv_iload_n hx hb dX10_pace_18 rfl (lv_at hl 0 rfl) ?_
    refine lv_if_lt (tgt := 27) hx hb dX10_pace_19 (by decide) (fun hc6 => ?_) (fun hc6 => ?_)
    · have hw := hw.1 hc6
      refine lv_aload_n hx hb dX10_pace_27 rfl (lv_at hl 1 rfl) ?_
      refine g_get (k := 7) hE hG (kd_lt km0 (by decide)) (ce_10 km0) rfl (by decide +kernel) (by decide) (by decide +kernel) rfl rfl dX10_pace_28 ?_
      refine lv_topi (fun x7 ex7 => ?_)
      have hw := hw x7 ex7
      refine lv_istore_n (lv' := [(3, .int x7), (2, .int r4), (0, .ref (X.2.1 0)), (1, .int v1)]) hx hb dX10_pace_31 rfl hl (by decide) rfl (fun ls hl => ?_)
      refine lv_aload_n hx hb dX10_pace_32 rfl (lv_at hl 2 rfl) ?_
      refine lv_iload_n hx hb dX10_pace_33 rfl (lv_at hl 3 rfl) ?_
      refine g_put (k := 7) (x := v1) (ty := .int) hE hG (kd_lt km0 (by decide)) (ce_10 km0) (by rw [ce_10 km0]; rfl) rfl (by decide +kernel) tyX10 tyX10_ok nmX10 (by decide) (by decide +kernel) rfl rfl (by decide +kernel) rfl rfl (Nat.le_of_ble_eq_true rfl) dX10_pace_34 (fun σ8 H locs eσ8 hG => ?_)
      have hw := hw σ8 eσ8
      refine lv_iload_n hx hb dX10_pace_37 rfl (lv_at hl 0 rfl) ?_
      exact g_iret hE hG hr hlk dX10_pace_38 hw
    · have hw := hw.2 hc6
      refine lv_bipush (v := (-100)) hx hb dX10_pace_22 (by decide) ?_
      refine lv_iload_n hx hb dX10_pace_24 rfl (lv_at hl 0 rfl) ?_
      refine lv_isub hx hb dX10_pace_25 ?_
      exact g_iret hE hG hr hlk dX10_pace_26 hw
  · have hw := hw.2 hc3
    refine lv_iconst (v := (-1)) hx hb dX10_pace_10 (by decide) ?_
    exact g_iret hE hG hr hlk dX10_pace_11 hw

set_option maxHeartbeats 4000000 in
set_option maxRecDepth 100000 in
theorem b_X10_fastest_3 {p : Program} {l : Launch} {e : Env} {s : State} {m : MethodId} {args : Array Value} {below : List Frame} {meth : Method} {c : Code} {X : wX} {A : Nat → Prop} (hE : eV p m c cX10_fastest 2 s args wsX10_fastest RX10 X) (hr : meth.sig.returnType = (some .int)) (hlk : meth.locks = false) {Q : Int32 → St → Prop} : ∀ (n : Nat) (σ : St) (v1 : Int32) (H : Heap) (locs : List Loc) (ls : Array Slot), wl_X10_fastest_3 Q n σ v1 → gW X kmL A s.heap σ H locs → lv_has ls 2 [(0, .ref (X.2.1 0)), (1, .int v1)] → W p l e rm_X10_fastest s m args below meth c H locs 0 0 (zI X kmL below args s A Q) (F0 m 3 ls []) := by
  have hx := hE.1.1
  have hb := hE.1.2.1
  intro n
  induction n with
  | zero =>
    intro σ v1 H locs ls hw
    exact False.elim hw
  | succ n ih =>
    intro σ v1 H locs ls hw hG hl
    have hw : wB_X10_fastest_3 Q (wl_X10_fastest_3 Q n) σ v1 := hw
    unfold wB_X10_fastest_3 at hw
    refine lv_aload_n hx hb dX10_fastest_3 rfl (lv_at hl 0 rfl) ?_
    refine lv_iload_n hx hb dX10_fastest_4 rfl (lv_at hl 1 rfl) ?_
    refine g_calli hG (g_runV (rm := rm_X10_brokenAt) (As := [.int v1]) (rest := []) (n := 1) hE hG (m_X10_brokenAt l X hw _) gX10_fastest_X10_brokenAt rfl rfl rfl (by decide +kernel) ⟨Nat.le_of_ble_eq_true rfl, Nat.le_of_ble_eq_true rfl⟩ (kd_lt km0 (by decide)) (ce_10 km0) rfl rfl rfl hl.1 (Nat.le_of_ble_eq_true rfl) dX10_fastest_5 ⟨Nat.zero_le _, Nat.zero_le _⟩) (fun r1 σ2 H locs hw hG => ?_)
    refine lv_if_lt (tgt := 17) hx hb dX10_fastest_8 (by decide) (fun hc3 => ?_) (fun hc3 => ?_)
    · have hw := hw.1 hc3
      refine lv_iload_n hx hb dX10_fastest_17 rfl (lv_at hl 1 rfl) ?_
      exact g_iret hE hG hr hlk dX10_fastest_18 hw
    · have hw := hw.2 hc3
      obtain ⟨x4, ex4⟩ : ∃ z : Int32, z = v1 + (-1 : Int32) := ⟨_, rfl⟩
      have hw := hw x4 ex4
      refine lv_iinc (v := x4) (lv' := [(1, .int x4), (0, .ref (X.2.1 0))]) hx hb dX10_fastest_11 hl (k := 1) rfl (by rw [ex4]; rfl) (by decide) rfl (fun ls hl => ?_)
      refine lv_goto (tgt := 3) hx hb dX10_fastest_14 (by decide) ?_
      exact ih _ _ _ _ _ hw hG (lv_sub hl [1, 0] rfl)

set_option maxHeartbeats 4000000 in
set_option maxRecDepth 100000 in
theorem m_X10_fastest (l : Launch) (X : wX) {Q : Int32 → St → Prop} {σ : St} (hw : wp_X10_fastest Q σ) : mI X kmL l yX10_fastest wsX10_fastest rm_X10_fastest [.ref (X.2.1 0)] σ Q := by
  refine mI.of (cc := cX10_fastest) (maxL := 2) (ret := (some .int)) (by decide +kernel) rfl (Nat.le_of_ble_eq_true rfl) ?_
  intro A p e s m args below meth c ls hE hr hlk hl hG
  have hx := hE.1.1
  have hb := hE.1.2.1
  unfold wp_X10_fastest at hw
  have hl : lv_has ls 2 [(0, .ref (X.2.1 0))] := hl
  refine lv_bipush (v := (60)) hx hb dX10_fastest_0 (by decide) ?_
  refine lv_istore_n (lv' := [(1, .int (60 : Int32)), (0, .ref (X.2.1 0))]) hx hb dX10_fastest_2 rfl hl (by decide) rfl (fun ls hl => ?_)
  obtain ⟨n, hw⟩ := hw
  exact b_X10_fastest_3 hE hr hlk n _ _ _ _ _ hw hG (lv_sub hl [1, 0] rfl)

set_option maxHeartbeats 4000000 in
set_option maxRecDepth 100000 in
theorem b_X10_act_38 {p : Program} {l : Launch} {e : Env} {s : State} {m : MethodId} {args : Array Value} {below : List Frame} {meth : Method} {c : Code} {X : wX} {A : Nat → Prop} {H : Heap} {locs : List Loc} {ls : Array Slot} {σ : St} (hE : eV p m c cX10_act 5 s args wsX10_act RX10 X) (hr : meth.sig.returnType = (some .int)) (hlk : meth.locks = false) {Q : Int32 → St → Prop} {v1 : Int32} {v2 : Int32} {v3 : Int32} {v4 : Int32} (hw : wb_X10_act_38 Q v1 v2 v3 v4 σ) (hG : gW X kmL A s.heap σ H locs) (hl : lv_has ls 5 [(0, .ref (X.2.1 0)), (1, .int v1), (2, .int v2), (3, .int v3), (4, .int v4)]) : W p l e rm_X10_act s m args below meth c H locs 0 0 (zI X kmL below args s A Q) (F0 m 38 ls []) := by
  have hx := hE.1.1
  have hb := hE.1.2.1
  unfold wb_X10_act_38 at hw
  refine lv_iload_n hx hb dX10_act_38 rfl (lv_at hl 3 rfl) ?_
  by_cases hs12 : v3 = (0 : Int32)
  · refine lv_tableIn (tgt := 64) hx hb dX10_act_39 (by rw [hs12]; decide) (by rw [hs12]; decide) (by rw [hs12]; rfl) (by decide) ?_
    have hw := hw.1 hs12
    refine lv_aload_n hx hb dX10_act_64 rfl (lv_at hl 0 rfl) ?_
    refine g_get (k := 0) hE hG (kd_lt km0 (by decide)) (ce_10 km0) rfl (by decide +kernel) (by decide) (by decide +kernel) rfl rfl dX10_act_65 ?_
    refine lv_bipush (v := (8)) hx hb dX10_act_68 (by decide) ?_
    refine lv_iload_n hx hb dX10_act_70 rfl (lv_at hl 1 rfl) ?_
    refine lv_imul hx hb dX10_act_71 ?_
    refine lv_iload_n hx hb dX10_act_72 rfl (lv_at hl 2 rfl) ?_
    refine lv_iadd hx hb dX10_act_73 ?_
    obtain ⟨hi11, hw⟩ := hw
    refine g_iald (n := 48) hE hG (kd_lt km1 (by decide)) (ce_int km1 (by decide) (by decide)) hi11 dX10_act_74 ?_
    exact g_iret hE hG hr hlk dX10_act_75 hw
  · skip
    by_cases hs14 : v3 = (1 : Int32)
    · refine lv_tableIn (tgt := 76) hx hb dX10_act_39 (by rw [hs14]; decide) (by rw [hs14]; decide) (by rw [hs14]; rfl) (by decide) ?_
      have hw := hw.2.1 hs14
      refine lv_aload_n hx hb dX10_act_76 rfl (lv_at hl 0 rfl) ?_
      refine g_get (k := 1) hE hG (kd_lt km0 (by decide)) (ce_10 km0) rfl (by decide +kernel) (by decide) (by decide +kernel) rfl rfl dX10_act_77 ?_
      refine lv_bipush (v := (8)) hx hb dX10_act_80 (by decide) ?_
      refine lv_iload_n hx hb dX10_act_82 rfl (lv_at hl 1 rfl) ?_
      refine lv_imul hx hb dX10_act_83 ?_
      refine lv_iload_n hx hb dX10_act_84 rfl (lv_at hl 2 rfl) ?_
      refine lv_iadd hx hb dX10_act_85 ?_
      obtain ⟨hi13, hw⟩ := hw
      refine g_iald (n := 48) hE hG (kd_lt km2 (by decide)) (ce_int km2 (by decide) (by decide)) hi13 dX10_act_86 ?_
      exact g_iret hE hG hr hlk dX10_act_87 hw
    · skip
      by_cases hs17 : v3 = (2 : Int32)
      · refine lv_tableIn (tgt := 88) hx hb dX10_act_39 (by rw [hs17]; decide) (by rw [hs17]; decide) (by rw [hs17]; rfl) (by decide) ?_
        have hw := hw.2.2.1 hs17
        refine lv_aload_n hx hb dX10_act_88 rfl (lv_at hl 0 rfl) ?_
        refine lv_iload_n hx hb dX10_act_89 rfl (lv_at hl 1 rfl) ?_
        refine lv_iload_n hx hb dX10_act_90 rfl (lv_at hl 2 rfl) ?_
        refine g_calli hG (g_runV (rm := rm_X10_lengthOf) (As := [.int v1, .int v2]) (rest := []) (n := 2) hE hG (m_X10_lengthOf l X hw _) gX10_act_X10_lengthOf rfl rfl rfl (by decide +kernel) ⟨Nat.le_of_ble_eq_true rfl, Nat.le_of_ble_eq_true rfl⟩ (kd_lt km0 (by decide)) (ce_10 km0) rfl rfl rfl hl.1 (Nat.le_of_ble_eq_true rfl) dX10_act_91 ⟨Nat.zero_le _, Nat.zero_le _⟩) (fun r15 σ16 H locs hw hG => ?_)
        exact g_iret hE hG hr hlk dX10_act_94 hw
      · skip
        have hw := hw.2.2.2 hs12 hs14 hs17
        have q0 := lv_neT hs12 (a := 0) (by decide)
        have q1 := lv_neT hs14 (a := 1) (by decide)
        have q2 := lv_neT hs17 (a := 2) (by decide)
        refine lv_tableOut (tgt := 95) hx hb dX10_act_39 (by omega) (by decide) ?_
        refine lv_aload_n hx hb dX10_act_95 rfl (lv_at hl 0 rfl) ?_
        refine lv_iload_n hx hb dX10_act_96 rfl (lv_at hl 1 rfl) ?_
        refine lv_iload_n hx hb dX10_act_97 rfl (lv_at hl 2 rfl) ?_
        refine lv_iload hx hb dX10_act_98 (lv_at hl 4 rfl) ?_
        refine g_calli hG (g_runV (rm := rm_X10_isDone) (As := [.int v1, .int v2, .int v4]) (rest := []) (n := 3) hE hG (m_X10_isDone l X hw _) gX10_act_X10_isDone rfl rfl rfl (by decide +kernel) ⟨Nat.le_of_ble_eq_true rfl, Nat.le_of_ble_eq_true rfl⟩ (kd_lt km0 (by decide)) (ce_10 km0) rfl rfl rfl hl.1 (Nat.le_of_ble_eq_true rfl) dX10_act_100 ⟨Nat.zero_le _, Nat.zero_le _⟩) (fun r18 σ19 H locs hw hG => ?_)
        refine lv_if_eq (tgt := 110) hx hb dX10_act_103 (by decide) (fun hc20 => ?_) (fun hc20 => ?_)
        · have hw := hw.1 hc20
          refine lv_iconst (v := 0) hx hb dX10_act_110 (by decide) ?_
          exact g_iret hE hG hr hlk dX10_act_111 hw
        · have hw := hw.2 hc20
          refine lv_iconst (v := 1) hx hb dX10_act_106 (by decide) ?_
          refine lv_goto (tgt := 111) hx hb dX10_act_107 (by decide) ?_
          exact g_iret hE hG hr hlk dX10_act_111 hw

set_option maxHeartbeats 4000000 in
set_option maxRecDepth 100000 in
theorem m_X10_act (l : Launch) (X : wX) {Q : Int32 → St → Prop} {v1 : Int32} {v2 : Int32} {v3 : Int32} {v4 : Int32} {σ : St} (hw : wp_X10_act Q v1 v2 v3 v4 σ) : mI X kmL l yX10_act wsX10_act rm_X10_act [.ref (X.2.1 0), .int v1, .int v2, .int v3, .int v4] σ Q := by
  refine mI.of (cc := cX10_act) (maxL := 5) (ret := (some .int)) (by decide +kernel) rfl (Nat.le_of_ble_eq_true rfl) ?_
  intro A p e s m args below meth c ls hE hr hlk hl hG
  have hx := hE.1.1
  have hb := hE.1.2.1
  unfold wp_X10_act at hw
  have hl : lv_has ls 5 [(0, .ref (X.2.1 0)), (1, .int v1), (2, .int v2), (3, .int v3), (4, .int v4)] := hl
  refine lv_iload_n hx hb dX10_act_0 rfl (lv_at hl 1 rfl) ?_
  refine g_calli hG (g_runS (rm := rm_X10_isSection) (As := [.int v1]) (rest := []) (n := 1) hE hG (m_X10_isSection l X hw _) gX10_act_X10_isSection rfl rfl rfl (by decide +kernel) ⟨Nat.le_of_ble_eq_true rfl, Nat.le_of_ble_eq_true rfl⟩ rfl hl.1 (Nat.le_of_ble_eq_true rfl) dX10_act_1 ⟨Nat.zero_le _, Nat.zero_le _⟩) (fun r1 σ2 H locs hw hG => ?_)
  refine lv_if_eq (tgt := 36) hx hb dX10_act_4 (by decide) (fun hc3 => ?_) (fun hc3 => ?_)
  · have hw := hw.1 hc3
    refine lv_iconst (v := (-1)) hx hb dX10_act_36 (by decide) ?_
    exact g_iret hE hG hr hlk dX10_act_37 hw
  · have hw := hw.2 hc3
    refine lv_iload_n hx hb dX10_act_7 rfl (lv_at hl 2 rfl) ?_
    refine g_calli hG (g_runS (rm := rm_X10_isAct) (As := [.int v2]) (rest := []) (n := 1) hE hG (m_X10_isAct l X hw _) gX10_act_X10_isAct rfl rfl rfl (by decide +kernel) ⟨Nat.le_of_ble_eq_true rfl, Nat.le_of_ble_eq_true rfl⟩ rfl hl.1 (Nat.le_of_ble_eq_true rfl) dX10_act_8 ⟨Nat.zero_le _, Nat.zero_le _⟩) (fun r4 σ5 H locs hw hG => ?_)
    refine lv_if_eq (tgt := 36) hx hb dX10_act_11 (by decide) (fun hc6 => ?_) (fun hc6 => ?_)
    · have hw := hw.1 hc6
      refine lv_iconst (v := (-1)) hx hb dX10_act_36 (by decide) ?_
      exact g_iret hE hG hr hlk dX10_act_37 hw
    · have hw := hw.2 hc6
      refine lv_iload_n hx hb dX10_act_14 rfl (lv_at hl 3 rfl) ?_
      refine lv_iconst (v := 0) hx hb dX10_act_15 (by decide) ?_
      refine lv_iconst (v := 3) hx hb dX10_act_16 (by decide) ?_
      refine g_calli hG (g_runS (rm := rm_X10_in) (As := [.int v3, .int (0 : Int32), .int (3 : Int32)]) (rest := []) (n := 3) hE hG (m_X10_in l X hw _) gX10_act_X10_in rfl rfl rfl (by decide +kernel) ⟨Nat.le_of_ble_eq_true rfl, Nat.le_of_ble_eq_true rfl⟩ rfl hl.1 (Nat.le_of_ble_eq_true rfl) dX10_act_17 ⟨Nat.zero_le _, Nat.zero_le _⟩) (fun r7 σ8 H locs hw hG => ?_)
      refine lv_if_eq (tgt := 36) hx hb dX10_act_20 (by decide) (fun hc9 => ?_) (fun hc9 => ?_)
      · have hw := hw.1 hc9
        refine lv_iconst (v := (-1)) hx hb dX10_act_36 (by decide) ?_
        exact g_iret hE hG hr hlk dX10_act_37 hw
      · have hw := hw.2 hc9
        refine lv_iload_n hx hb dX10_act_23 rfl (lv_at hl 3 rfl) ?_
        refine lv_iconst (v := 3) hx hb dX10_act_24 (by decide) ?_
        refine lv_icmp_ne (tgt := 38) hx hb dX10_act_25 (by decide) (fun hc10 => ?_) (fun hc10 => ?_)
        · have hw := hw.1 hc10
          exact b_X10_act_38 hE hr hlk hw hG (lv_sub hl [0, 1, 2, 3, 4] rfl)
        · have hw := hw.2 hc10
          refine lv_iload hx hb dX10_act_28 (lv_at hl 4 rfl) ?_
          refine g_calli hG (g_runS (rm := rm_X10_isDegree) (As := [.int v4]) (rest := []) (n := 1) hE hG (m_X10_isDegree l X hw _) gX10_act_X10_isDegree rfl rfl rfl (by decide +kernel) ⟨Nat.le_of_ble_eq_true rfl, Nat.le_of_ble_eq_true rfl⟩ rfl hl.1 (Nat.le_of_ble_eq_true rfl) dX10_act_30 ⟨Nat.zero_le _, Nat.zero_le _⟩) (fun r21 σ22 H locs hw hG => ?_)
          refine lv_if_ne (tgt := 38) hx hb dX10_act_33 (by decide) (fun hc23 => ?_) (fun hc23 => ?_)
          · have hw := hw.1 hc23
            exact b_X10_act_38 hE hr hlk hw hG (lv_sub hl [0, 1, 2, 3, 4] rfl)
          · have hw := hw.2 hc23
            refine lv_iconst (v := (-1)) hx hb dX10_act_36 (by decide) ?_
            exact g_iret hE hG hr hlk dX10_act_37 hw

set_option maxHeartbeats 4000000 in
set_option maxRecDepth 100000 in
theorem b_X10_find_112 {p : Program} {l : Launch} {e : Env} {s : State} {m : MethodId} {args : Array Value} {below : List Frame} {meth : Method} {c : Code} {X : wX} {A : Nat → Prop} {H : Heap} {locs : List Loc} {ls : Array Slot} {σ : St} (hE : eV p m c cX10_find 10 s args wsX10_find RX10 X) (hr : meth.sig.returnType = none) (hlk : meth.locks = false) {Q : St → Prop} {v1 : Int32} {v2 : Int32} {v4 : Int32} {v5 : Int32} {v6 : Int32} {z0 : Int32} (hw : wb_X10_find_112 Q v1 v2 v4 v5 v6 z0 σ) (hG : gW X kmL A s.heap σ H locs) (hl : lv_has ls 10 [(0, .ref (X.2.1 0)), (1, .int v1), (2, .int v2), (4, .int v4), (5, .int v5), (6, .int v6)]) : W p l e rm_X10_find s m args below meth c H locs 0 0 (zV X kmL below args s A Q) (F0 m 112 ls [.int z0]) := by
  have hx := hE.1.1
  have hb := hE.1.2.1
  unfold wb_X10_find_112 at hw
  refine lv_istore (lv' := [(7, .int z0), (0, .ref (X.2.1 0)), (1, .int v1), (2, .int v2), (4, .int v4), (5, .int v5), (6, .int v6)]) hx hb dX10_find_112 hl (by decide) rfl (fun ls hl => ?_)
  refine lv_iload_n hx hb dX10_find_114 rfl (lv_at hl 3 rfl) ?_
  refine lv_iload hx hb dX10_find_115 (lv_at hl 6 rfl) ?_
  refine lv_isub hx hb dX10_find_117 ?_
  refine lv_sipush (v := (360)) hx hb dX10_find_118 (by decide) ?_
  refine lv_iadd hx hb dX10_find_121 ?_
  refine lv_sipush (v := (360)) hx hb dX10_find_122 (by decide) ?_
  refine lv_irem hx hb dX10_find_125 (by decide) ?_
  refine lv_topi (fun x12 ex12 => ?_)
  have hw := hw x12 ex12
  refine lv_istore (lv' := [(8, .int x12), (7, .int z0), (0, .ref (X.2.1 0)), (1, .int v1), (2, .int v2), (4, .int v4), (5, .int v5), (6, .int v6)]) hx hb dX10_find_126 hl (by decide) rfl (fun ls hl => ?_)
  refine lv_aload_n hx hb dX10_find_128 rfl (lv_at hl 2 rfl) ?_
  refine g_get (k := 10) hE hG (kd_lt km0 (by decide)) (ce_10 km0) rfl (by decide +kernel) (by decide) (by decide +kernel) rfl rfl dX10_find_129 ?_
  refine lv_bipush (v := (6)) hx hb dX10_find_132 (by decide) ?_
  refine lv_iload_n hx hb dX10_find_134 rfl (lv_at hl 3 rfl) ?_
  refine lv_imul hx hb dX10_find_135 ?_
  refine lv_iload hx hb dX10_find_136 (lv_at hl 5 rfl) ?_
  refine lv_iadd hx hb dX10_find_138 ?_
  obtain ⟨hi13, hw⟩ := hw
  refine g_iald (n := 18) hE hG (kd_lt km9 (by decide)) (ce_int km9 (by decide) (by decide)) hi13 dX10_find_139 ?_
  refine lv_topi (fun x14 ex14 => ?_)
  have hw := hw x14 ex14
  refine lv_istore (lv' := [(9, .int x14), (8, .int x12), (7, .int z0), (0, .ref (X.2.1 0)), (1, .int v1), (2, .int v2), (4, .int v4), (5, .int v5), (6, .int v6)]) hx hb dX10_find_140 hl (by decide) rfl (fun ls hl => ?_)
  refine lv_aload_n hx hb dX10_find_142 rfl (lv_at hl 3 rfl) ?_
  refine lv_iload hx hb dX10_find_143 (lv_at hl 0 rfl) ?_
  refine lv_iload hx hb dX10_find_145 (lv_at hl 2 rfl) ?_
  refine lv_imul hx hb dX10_find_147 ?_
  refine lv_aload_n hx hb dX10_find_148 rfl (lv_at hl 3 rfl) ?_
  refine g_get (k := 10) hE hG (kd_lt km0 (by decide)) (ce_10 km0) rfl (by decide +kernel) (by decide) (by decide +kernel) rfl rfl dX10_find_149 ?_
  refine lv_bipush (v := (6)) hx hb dX10_find_152 (by decide) ?_
  refine lv_iload_n hx hb dX10_find_154 rfl (lv_at hl 4 rfl) ?_
  refine lv_imul hx hb dX10_find_155 ?_
  refine lv_iload hx hb dX10_find_156 (lv_at hl 7 rfl) ?_
  refine lv_iadd hx hb dX10_find_158 ?_
  obtain ⟨hi15, hw⟩ := hw
  refine g_iald (n := 18) hE hG (kd_lt km9 (by decide)) (ce_int km9 (by decide) (by decide)) hi15 dX10_find_159 ?_
  refine lv_iload hx hb dX10_find_160 (lv_at hl 0 rfl) ?_
  refine lv_isub hx hb dX10_find_162 ?_
  refine lv_iload hx hb dX10_find_163 (lv_at hl 1 rfl) ?_
  refine lv_imul hx hb dX10_find_165 ?_
  refine lv_iadd hx hb dX10_find_166 ?_
  refine g_put (k := 41) (x := ((x14 * z0) + (((σ 9 (((6 : Int32) * v1) + v5).toNatClampNeg) - x14) * x12))) (ty := .int) hE hG (kd_lt km0 (by decide)) (ce_10 km0) (by rw [ce_10 km0]; rfl) rfl (by decide +kernel) tyX10 tyX10_ok nmX10 (by decide) (by decide +kernel) rfl rfl (by decide +kernel) rfl rfl (Nat.le_of_ble_eq_true rfl) dX10_find_167 (fun σ16 H locs eσ16 hG => ?_)
  have hw := hw σ16 eσ16
  refine lv_aload_n hx hb dX10_find_170 rfl (lv_at hl 3 rfl) ?_
  refine lv_iload hx hb dX10_find_171 (lv_at hl 2 rfl) ?_
  refine g_put (k := 42) (x := z0) (ty := .int) hE hG (kd_lt km0 (by decide)) (ce_10 km0) (by rw [ce_10 km0]; rfl) rfl (by decide +kernel) tyX10 tyX10_ok nmX10 (by decide) (by decide +kernel) rfl rfl (by decide +kernel) rfl rfl (Nat.le_of_ble_eq_true rfl) dX10_find_173 (fun σ17 H locs eσ17 hG => ?_)
  have hw := hw σ17 eσ17
  exact g_vret hE hG hr hlk dX10_find_176 hw

set_option maxHeartbeats 4000000 in
set_option maxRecDepth 100000 in
theorem b_X10_find_15 {p : Program} {l : Launch} {e : Env} {s : State} {m : MethodId} {args : Array Value} {below : List Frame} {meth : Method} {c : Code} {X : wX} {A : Nat → Prop} (hE : eV p m c cX10_find 10 s args wsX10_find RX10 X) (hr : meth.sig.returnType = none) (hlk : meth.locks = false) {Q : St → Prop} {v1 : Int32} {v2 : Int32} {v3 : Int32} : ∀ (n : Nat) (σ : St) (v4 : Int32) (v5 : Int32) (H : Heap) (locs : List Loc) (ls : Array Slot), wl_X10_find_15 Q v1 v2 v3 n σ v4 v5 → gW X kmL A s.heap σ H locs → lv_has ls 10 [(0, .ref (X.2.1 0)), (1, .int v1), (2, .int v2), (3, .int v3), (4, .int v4), (5, .int v5)] → W p l e rm_X10_find s m args below meth c H locs 0 0 (zV X kmL below args s A Q) (F0 m 15 ls []) := by
  have hx := hE.1.1
  have hb := hE.1.2.1
  intro n
  induction n with
  | zero =>
    intro σ v4 v5 H locs ls hw
    exact False.elim hw
  | succ n ih =>
    intro σ v4 v5 H locs ls hw hG hl
    have hw : wB_X10_find_15 Q (wl_X10_find_15 Q v1 v2 v3 n) v1 v2 v3 σ v4 v5 := hw
    unfold wB_X10_find_15 at hw
    refine lv_iload hx hb dX10_find_15 (lv_at hl 5 rfl) ?_
    refine lv_iload_n hx hb dX10_find_17 rfl (lv_at hl 3 rfl) ?_
    refine lv_icmp_ge (tgt := 52) hx hb dX10_find_18 (by decide) (fun hc4 => ?_) (fun hc4 => ?_)
    · have hw := hw.1 hc4
      refine lv_iload hx hb dX10_find_52 (lv_at hl 4 rfl) ?_
      refine lv_iconst (v := 1) hx hb dX10_find_54 (by decide) ?_
      refine lv_iadd hx hb dX10_find_55 ?_
      refine lv_iload_n hx hb dX10_find_56 rfl (lv_at hl 3 rfl) ?_
      obtain ⟨hz5, hw⟩ := hw
      refine lv_irem hx hb dX10_find_57 hz5 ?_
      refine lv_topi (fun x6 ex6 => ?_)
      have hw := hw x6 ex6
      refine lv_istore (lv' := [(5, .int x6), (0, .ref (X.2.1 0)), (1, .int v1), (2, .int v2), (3, .int v3), (4, .int v4)]) hx hb dX10_find_58 hl (by decide) rfl (fun ls hl => ?_)
      refine lv_aload_n hx hb dX10_find_60 rfl (lv_at hl 1 rfl) ?_
      refine g_get (k := 9) hE hG (kd_lt km0 (by decide)) (ce_10 km0) rfl (by decide +kernel) (by decide) (by decide +kernel) rfl rfl dX10_find_61 ?_
      refine lv_bipush (v := (6)) hx hb dX10_find_64 (by decide) ?_
      refine lv_iload_n hx hb dX10_find_66 rfl (lv_at hl 2 rfl) ?_
      refine lv_imul hx hb dX10_find_67 ?_
      refine lv_iload hx hb dX10_find_68 (lv_at hl 5 rfl) ?_
      refine lv_iadd hx hb dX10_find_70 ?_
      obtain ⟨hi7, hw⟩ := hw
      refine g_iald (n := 18) hE hG (kd_lt km8 (by decide)) (ce_int km8 (by decide) (by decide)) hi7 dX10_find_71 ?_
      refine lv_topi (fun x8 ex8 => ?_)
      have hw := hw x8 ex8
      refine lv_istore (lv' := [(6, .int x8), (5, .int x6), (0, .ref (X.2.1 0)), (1, .int v1), (2, .int v2), (3, .int v3), (4, .int v4)]) hx hb dX10_find_72 hl (by decide) rfl (fun ls hl => ?_)
      refine lv_aload_n hx hb dX10_find_74 rfl (lv_at hl 2 rfl) ?_
      refine g_get (k := 9) hE hG (kd_lt km0 (by decide)) (ce_10 km0) rfl (by decide +kernel) (by decide) (by decide +kernel) rfl rfl dX10_find_75 ?_
      refine lv_bipush (v := (6)) hx hb dX10_find_78 (by decide) ?_
      refine lv_iload_n hx hb dX10_find_80 rfl (lv_at hl 3 rfl) ?_
      refine lv_imul hx hb dX10_find_81 ?_
      refine lv_iload hx hb dX10_find_82 (lv_at hl 1 rfl) ?_
      refine lv_iadd hx hb dX10_find_84 ?_
      obtain ⟨hi9, hw⟩ := hw
      refine g_iald (n := 18) hE hG (kd_lt km8 (by decide)) (ce_int km8 (by decide) (by decide)) hi9 dX10_find_85 ?_
      refine lv_iload hx hb dX10_find_86 (lv_at hl 0 rfl) ?_
      refine lv_isub hx hb dX10_find_88 ?_
      refine lv_sipush (v := (360)) hx hb dX10_find_89 (by decide) ?_
      refine lv_iadd hx hb dX10_find_92 ?_
      refine lv_sipush (v := (360)) hx hb dX10_find_93 (by decide) ?_
      refine lv_irem hx hb dX10_find_96 (by decide) ?_
      refine lv_topi (fun x10 ex10 => ?_)
      have hw := hw x10 ex10
      refine lv_istore (lv' := [(7, .int x10), (6, .int x8), (5, .int x6), (0, .ref (X.2.1 0)), (1, .int v1), (2, .int v2), (3, .int v3), (4, .int v4)]) hx hb dX10_find_97 hl (by decide) rfl (fun ls hl => ?_)
      refine lv_iload hx hb dX10_find_99 (lv_at hl 0 rfl) ?_
      refine lv_if_ne (tgt := 110) hx hb dX10_find_101 (by decide) (fun hc11 => ?_) (fun hc11 => ?_)
      · have hw := hw.1 hc11
        refine lv_iload hx hb dX10_find_110 (lv_at hl 0 rfl) ?_
        exact b_X10_find_112 hE hr hlk hw hG (lv_sub hl [3, 4, 5, 7, 2, 1] rfl)
      · have hw := hw.2 hc11
        refine lv_sipush (v := (360)) hx hb dX10_find_104 (by decide) ?_
        refine lv_goto (tgt := 112) hx hb dX10_find_107 (by decide) ?_
        exact b_X10_find_112 hE hr hlk hw hG (lv_sub hl [3, 4, 5, 7, 2, 1] rfl)
    · have hw := hw.2 hc4
      refine lv_aload_n hx hb dX10_find_21 rfl (lv_at hl 0 rfl) ?_
      refine g_get (k := 9) hE hG (kd_lt km0 (by decide)) (ce_10 km0) rfl (by decide +kernel) (by decide) (by decide +kernel) rfl rfl dX10_find_22 ?_
      refine lv_bipush (v := (6)) hx hb dX10_find_25 (by decide) ?_
      refine lv_iload_n hx hb dX10_find_27 rfl (lv_at hl 1 rfl) ?_
      refine lv_imul hx hb dX10_find_28 ?_
      refine lv_iload hx hb dX10_find_29 (lv_at hl 5 rfl) ?_
      refine lv_iadd hx hb dX10_find_31 ?_
      obtain ⟨hi18, hw⟩ := hw
      refine g_iald (n := 18) hE hG (kd_lt km8 (by decide)) (ce_int km8 (by decide) (by decide)) hi18 dX10_find_32 ?_
      refine lv_iload_n hx hb dX10_find_33 rfl (lv_at hl 2 rfl) ?_
      refine lv_icmp_gt (tgt := 42) hx hb dX10_find_34 (by decide) (fun hc19 => ?_) (fun hc19 => ?_)
      · have hw := hw.1 hc19
        refine lv_iload hx hb dX10_find_42 (lv_at hl 4 rfl) ?_
        refine lv_istore (lv' := [(4, .int v4), (0, .ref (X.2.1 0)), (1, .int v1), (2, .int v2), (3, .int v3), (5, .int v5)]) hx hb dX10_find_44 hl (by decide) rfl (fun ls hl => ?_)
        obtain ⟨x20, ex20⟩ : ∃ z : Int32, z = v5 + (1 : Int32) := ⟨_, rfl⟩
        have hw := hw x20 ex20
        refine lv_iinc (v := x20) (lv' := [(5, .int x20), (4, .int v4), (0, .ref (X.2.1 0)), (1, .int v1), (2, .int v2), (3, .int v3)]) hx hb dX10_find_46 hl (k := 5) rfl (by rw [ex20]; rfl) (by decide) rfl (fun ls hl => ?_)
        refine lv_goto (tgt := 15) hx hb dX10_find_49 (by decide) ?_
        exact ih _ _ _ _ _ _ hw hG (lv_sub hl [2, 3, 4, 5, 1, 0] rfl)
      · have hw := hw.2 hc19
        refine lv_iload hx hb dX10_find_37 (lv_at hl 5 rfl) ?_
        refine lv_goto (tgt := 44) hx hb dX10_find_39 (by decide) ?_
        refine lv_istore (lv' := [(4, .int v5), (0, .ref (X.2.1 0)), (1, .int v1), (2, .int v2), (3, .int v3), (5, .int v5)]) hx hb dX10_find_44 hl (by decide) rfl (fun ls hl => ?_)
        obtain ⟨x21, ex21⟩ : ∃ z : Int32, z = v5 + (1 : Int32) := ⟨_, rfl⟩
        have hw := hw x21 ex21
        refine lv_iinc (v := x21) (lv' := [(5, .int x21), (4, .int v5), (0, .ref (X.2.1 0)), (1, .int v1), (2, .int v2), (3, .int v3)]) hx hb dX10_find_46 hl (k := 5) rfl (by rw [ex21]; rfl) (by decide) rfl (fun ls hl => ?_)
        refine lv_goto (tgt := 15) hx hb dX10_find_49 (by decide) ?_
        exact ih _ _ _ _ _ _ hw hG (lv_sub hl [2, 3, 4, 5, 1, 0] rfl)

set_option maxHeartbeats 4000000 in
set_option maxRecDepth 100000 in
theorem m_X10_find (l : Launch) (X : wX) {Q : St → Prop} {v1 : Int32} {v2 : Int32} {σ : St} (hw : wp_X10_find Q v1 v2 σ) : mV X kmL l yX10_find wsX10_find rm_X10_find [.ref (X.2.1 0), .int v1, .int v2] σ Q := by
  refine mV.of (cc := cX10_find) (maxL := 10) (ret := none) (by decide +kernel) rfl (Nat.le_of_ble_eq_true rfl) ?_
  intro A p e s m args below meth c ls hE hr hlk hl hG
  have hx := hE.1.1
  have hb := hE.1.2.1
  unfold wp_X10_find at hw
  have hl : lv_has ls 10 [(0, .ref (X.2.1 0)), (1, .int v1), (2, .int v2)] := hl
  refine lv_aload_n hx hb dX10_find_0 rfl (lv_at hl 0 rfl) ?_
  refine g_get (k := 8) hE hG (kd_lt km0 (by decide)) (ce_10 km0) rfl (by decide +kernel) (by decide) (by decide +kernel) rfl rfl dX10_find_1 ?_
  refine lv_iload_n hx hb dX10_find_4 rfl (lv_at hl 1 rfl) ?_
  obtain ⟨hi1, hw⟩ := hw
  refine g_iald (n := 3) hE hG (kd_lt km7 (by decide)) (ce_int km7 (by decide) (by decide)) hi1 dX10_find_5 ?_
  refine lv_topi (fun x2 ex2 => ?_)
  have hw := hw x2 ex2
  refine lv_istore_n (lv' := [(3, .int x2), (0, .ref (X.2.1 0)), (1, .int v1), (2, .int v2)]) hx hb dX10_find_6 rfl hl (by decide) rfl (fun ls hl => ?_)
  refine lv_iload_n hx hb dX10_find_7 rfl (lv_at hl 0 rfl) ?_
  refine lv_iconst (v := 1) hx hb dX10_find_8 (by decide) ?_
  refine lv_isub hx hb dX10_find_9 ?_
  refine lv_topi (fun x3 ex3 => ?_)
  have hw := hw x3 ex3
  refine lv_istore (lv' := [(4, .int x3), (3, .int x2), (0, .ref (X.2.1 0)), (1, .int v1), (2, .int v2)]) hx hb dX10_find_10 hl (by decide) rfl (fun ls hl => ?_)
  refine lv_iconst (v := 0) hx hb dX10_find_12 (by decide) ?_
  refine lv_istore (lv' := [(5, .int (0 : Int32)), (4, .int x3), (3, .int x2), (0, .ref (X.2.1 0)), (1, .int v1), (2, .int v2)]) hx hb dX10_find_13 hl (by decide) rfl (fun ls hl => ?_)
  obtain ⟨n, hw⟩ := hw
  exact b_X10_find_15 hE hr hlk n _ _ _ _ _ _ hw hG (lv_sub hl [3, 4, 5, 2, 1, 0] rfl)

set_option maxHeartbeats 4000000 in
set_option maxRecDepth 100000 in
theorem b_X10_areClear_18 {p : Program} {l : Launch} {e : Env} {s : State} {m : MethodId} {args : Array Value} {below : List Frame} {meth : Method} {c : Code} {X : wX} {A : Nat → Prop} (hE : eV p m c cX10_areClear 8 s args wsX10_areClear RX10 X) (hr : meth.sig.returnType = (some .boolean)) (hlk : meth.locks = false) {Q : Int32 → St → Prop} {L2 : St → Int32 → Prop} {L11 : St → Int32 → Prop} {v1 : Int32} {v2 : Int32} (hL2 : ∀ (σ : St) (v1 : Int32) (H : Heap) (locs : List Loc) (ls : Array Slot), L2 σ v1 → gW X kmL A s.heap σ H locs → lv_has ls 8 [(0, .ref (X.2.1 0)), (1, .int v1)] → W p l e rm_X10_areClear s m args below meth c H locs 0 0 (zI X kmL below args s A Q) (F0 m 2 ls [])) (hL11 : ∀ (σ : St) (v2 : Int32) (H : Heap) (locs : List Loc) (ls : Array Slot), L11 σ v2 → gW X kmL A s.heap σ H locs → lv_has ls 8 [(0, .ref (X.2.1 0)), (1, .int v1), (2, .int v2)] → W p l e rm_X10_areClear s m args below meth c H locs 0 0 (zI X kmL below args s A Q) (F0 m 11 ls [])) : ∀ (n : Nat) (σ : St) (v3 : Int32) (H : Heap) (locs : List Loc) (ls : Array Slot), wl_X10_areClear_18 Q L2 L11 v1 v2 n σ v3 → gW X kmL A s.heap σ H locs → lv_has ls 8 [(0, .ref (X.2.1 0)), (1, .int v1), (2, .int v2), (3, .int v3)] → W p l e rm_X10_areClear s m args below meth c H locs 0 0 (zI X kmL below args s A Q) (F0 m 18 ls []) := by
  have hx := hE.1.1
  have hb := hE.1.2.1
  intro n
  induction n with
  | zero =>
    intro σ v3 H locs ls hw
    exact False.elim hw
  | succ n ih =>
    intro σ v3 H locs ls hw hG hl
    have hw : wB_X10_areClear_18 Q L2 L11 (wl_X10_areClear_18 Q L2 L11 v1 v2 n) v1 v2 σ v3 := hw
    unfold wB_X10_areClear_18 at hw
    refine lv_iload_n hx hb dX10_areClear_18 rfl (lv_at hl 3 rfl) ?_
    refine lv_sipush (v := (360)) hx hb dX10_areClear_19 (by decide) ?_
    refine lv_icmp_ge (tgt := 89) hx hb dX10_areClear_22 (by decide) (fun hc5 => ?_) (fun hc5 => ?_)
    · have hw := hw.1 hc5
      obtain ⟨x6, ex6⟩ : ∃ z : Int32, z = v2 + (1 : Int32) := ⟨_, rfl⟩
      have hw := hw x6 ex6
      refine lv_iinc (v := x6) (lv' := [(2, .int x6), (0, .ref (X.2.1 0)), (1, .int v1), (3, .int v3)]) hx hb dX10_areClear_89 hl (k := 2) rfl (by rw [ex6]; rfl) (by decide) rfl (fun ls hl => ?_)
      refine lv_goto (tgt := 11) hx hb dX10_areClear_92 (by decide) ?_
      exact hL11 _ _ _ _ _ hw hG (lv_sub hl [1, 2, 0] rfl)
    · have hw := hw.2 hc5
      refine lv_aload_n hx hb dX10_areClear_25 rfl (lv_at hl 0 rfl) ?_
      refine lv_iload_n hx hb dX10_areClear_26 rfl (lv_at hl 1 rfl) ?_
      refine lv_iload_n hx hb dX10_areClear_27 rfl (lv_at hl 3 rfl) ?_
      refine g_callv hG (g_runV (rm := rm_X10_find) (As := [.int v1, .int v3]) (rest := []) (n := 2) hE hG (m_X10_find l X hw _) gX10_areClear_X10_find rfl rfl rfl (by decide +kernel) ⟨Nat.le_of_ble_eq_true rfl, Nat.le_of_ble_eq_true rfl⟩ (kd_lt km0 (by decide)) (ce_10 km0) rfl rfl rfl hl.1 (Nat.le_of_ble_eq_true rfl) dX10_areClear_28 ⟨Nat.zero_le _, Nat.zero_le _⟩) (fun σ8 H locs hw hG => ?_)
      refine lv_aload_n hx hb dX10_areClear_31 rfl (lv_at hl 0 rfl) ?_
      refine g_get (k := 41) hE hG (kd_lt km0 (by decide)) (ce_10 km0) rfl (by decide +kernel) (by decide) (by decide +kernel) rfl rfl dX10_areClear_32 ?_
      refine lv_i2l hx hb dX10_areClear_35 rfl ?_
      refine lv_ldc2 (v := (50)) hx hb hE.1.2.2.2.1 (hE.1.2.2.2.2 _ (by decide +kernel)) dX10_areClear_36 ?_
      refine lv_aload_n hx hb dX10_areClear_39 rfl (lv_at hl 0 rfl) ?_
      refine g_get (k := 42) hE hG (kd_lt km0 (by decide)) (ce_10 km0) rfl (by decide +kernel) (by decide) (by decide +kernel) rfl rfl dX10_areClear_40 ?_
      refine lv_i2l hx hb dX10_areClear_43 rfl ?_
      refine lv_lmul hx hb dX10_areClear_44 ?_
      refine lv_ladd hx hb dX10_areClear_45 ?_
      refine lv_topl (fun x9 ex9 => ?_)
      have hw := hw x9 ex9
      refine lv_lstore (lv' := [(4, .long x9), (0, .ref (X.2.1 0)), (1, .int v1), (2, .int v2), (3, .int v3)]) hx hb dX10_areClear_46 hl (by decide) rfl (fun ls hl => ?_)
      refine lv_aload_n hx hb dX10_areClear_48 rfl (lv_at hl 1 rfl) ?_
      refine g_get (k := 42) hE hG (kd_lt km0 (by decide)) (ce_10 km0) rfl (by decide +kernel) (by decide) (by decide +kernel) rfl rfl dX10_areClear_49 ?_
      refine lv_i2l hx hb dX10_areClear_52 rfl ?_
      refine lv_topl (fun x10 ex10 => ?_)
      have hw := hw x10 ex10
      refine lv_lstore (lv' := [(6, .long x10), (4, .long x9), (0, .ref (X.2.1 0)), (1, .int v1), (2, .int v2), (3, .int v3)]) hx hb dX10_areClear_53 hl (by decide) rfl (fun ls hl => ?_)
      refine lv_aload_n hx hb dX10_areClear_55 rfl (lv_at hl 2 rfl) ?_
      refine lv_iload_n hx hb dX10_areClear_56 rfl (lv_at hl 4 rfl) ?_
      refine lv_iload_n hx hb dX10_areClear_57 rfl (lv_at hl 5 rfl) ?_
      refine g_callv hG (g_runV (rm := rm_X10_find) (As := [.int v2, .int v3]) (rest := []) (n := 2) hE hG (m_X10_find l X hw _) gX10_areClear_X10_find rfl rfl rfl (by decide +kernel) ⟨Nat.le_of_ble_eq_true rfl, Nat.le_of_ble_eq_true rfl⟩ (kd_lt km0 (by decide)) (ce_10 km0) rfl rfl rfl hl.1 (Nat.le_of_ble_eq_true rfl) dX10_areClear_58 ⟨Nat.zero_le _, Nat.zero_le _⟩) (fun σ12 H locs hw hG => ?_)
      refine lv_lload hx hb dX10_areClear_61 (lv_at hl 1 rfl) ?_
      refine lv_aload_n hx hb dX10_areClear_63 rfl (lv_at hl 2 rfl) ?_
      refine g_get (k := 42) hE hG (kd_lt km0 (by decide)) (ce_10 km0) rfl (by decide +kernel) (by decide) (by decide +kernel) rfl rfl dX10_areClear_64 ?_
      refine lv_i2l hx hb dX10_areClear_67 rfl ?_
      refine lv_lmul hx hb dX10_areClear_68 ?_
      refine lv_aload_n hx hb dX10_areClear_69 rfl (lv_at hl 2 rfl) ?_
      refine g_get (k := 41) hE hG (kd_lt km0 (by decide)) (ce_10 km0) rfl (by decide +kernel) (by decide) (by decide +kernel) rfl rfl dX10_areClear_70 ?_
      refine lv_i2l hx hb dX10_areClear_73 rfl ?_
      refine lv_lload hx hb dX10_areClear_74 (lv_at hl 0 rfl) ?_
      refine lv_lmul hx hb dX10_areClear_76 ?_
      refine W.lcmp hx hb dX10_areClear_77 ?_
      refine lv_if_le (tgt := 83) hx hb dX10_areClear_78 (by decide) (fun hc13 => ?_) (fun hc13 => ?_)
      · have hw := hw.1 hc13
        obtain ⟨x14, ex14⟩ : ∃ z : Int32, z = v3 + (1 : Int32) := ⟨_, rfl⟩
        have hw := hw x14 ex14
        refine lv_iinc (v := x14) (lv' := [(3, .int x14), (6, .long x10), (4, .long x9), (0, .ref (X.2.1 0)), (1, .int v1), (2, .int v2)]) hx hb dX10_areClear_83 hl (k := 5) rfl (by rw [ex14]; rfl) (by decide) rfl (fun ls hl => ?_)
        refine lv_goto (tgt := 18) hx hb dX10_areClear_86 (by decide) ?_
        exact ih _ _ _ _ _ hw hG (lv_sub hl [3, 4, 5, 0] rfl)
      · have hw := hw.2 hc13
        refine lv_iconst (v := 0) hx hb dX10_areClear_81 (by decide) ?_
        exact g_zret hE hG hr hlk dX10_areClear_82 (by decide) hw

set_option maxHeartbeats 4000000 in
set_option maxRecDepth 100000 in
theorem b_X10_areClear_11 {p : Program} {l : Launch} {e : Env} {s : State} {m : MethodId} {args : Array Value} {below : List Frame} {meth : Method} {c : Code} {X : wX} {A : Nat → Prop} (hE : eV p m c cX10_areClear 8 s args wsX10_areClear RX10 X) (hr : meth.sig.returnType = (some .boolean)) (hlk : meth.locks = false) {Q : Int32 → St → Prop} {L2 : St → Int32 → Prop} {v1 : Int32} (hL2 : ∀ (σ : St) (v1 : Int32) (H : Heap) (locs : List Loc) (ls : Array Slot), L2 σ v1 → gW X kmL A s.heap σ H locs → lv_has ls 8 [(0, .ref (X.2.1 0)), (1, .int v1)] → W p l e rm_X10_areClear s m args below meth c H locs 0 0 (zI X kmL below args s A Q) (F0 m 2 ls [])) : ∀ (n : Nat) (σ : St) (v2 : Int32) (H : Heap) (locs : List Loc) (ls : Array Slot), wl_X10_areClear_11 Q L2 v1 n σ v2 → gW X kmL A s.heap σ H locs → lv_has ls 8 [(0, .ref (X.2.1 0)), (1, .int v1), (2, .int v2)] → W p l e rm_X10_areClear s m args below meth c H locs 0 0 (zI X kmL below args s A Q) (F0 m 11 ls []) := by
  have hx := hE.1.1
  have hb := hE.1.2.1
  intro n
  induction n with
  | zero =>
    intro σ v2 H locs ls hw
    exact False.elim hw
  | succ n ih =>
    intro σ v2 H locs ls hw hG hl
    have hw : wB_X10_areClear_11 Q L2 (wl_X10_areClear_11 Q L2 v1 n) v1 σ v2 := hw
    unfold wB_X10_areClear_11 at hw
    refine lv_iload_n hx hb dX10_areClear_11 rfl (lv_at hl 2 rfl) ?_
    refine lv_iconst (v := 3) hx hb dX10_areClear_12 (by decide) ?_
    refine lv_icmp_ge (tgt := 95) hx hb dX10_areClear_13 (by decide) (fun hc3 => ?_) (fun hc3 => ?_)
    · have hw := hw.1 hc3
      obtain ⟨x4, ex4⟩ : ∃ z : Int32, z = v1 + (1 : Int32) := ⟨_, rfl⟩
      have hw := hw x4 ex4
      refine lv_iinc (v := x4) (lv' := [(1, .int x4), (0, .ref (X.2.1 0)), (2, .int v2)]) hx hb dX10_areClear_95 hl (k := 1) rfl (by rw [ex4]; rfl) (by decide) rfl (fun ls hl => ?_)
      refine lv_goto (tgt := 2) hx hb dX10_areClear_98 (by decide) ?_
      exact hL2 _ _ _ _ _ hw hG (lv_sub hl [1, 0] rfl)
    · have hw := hw.2 hc3
      refine lv_iconst (v := 0) hx hb dX10_areClear_16 (by decide) ?_
      refine lv_istore_n (lv' := [(3, .int (0 : Int32)), (0, .ref (X.2.1 0)), (1, .int v1), (2, .int v2)]) hx hb dX10_areClear_17 rfl hl (by decide) rfl (fun ls hl => ?_)
      obtain ⟨n, hw⟩ := hw
      exact b_X10_areClear_18 hE hr hlk hL2 ih n _ _ _ _ _ hw hG (lv_sub hl [1, 2, 3, 0] rfl)

set_option maxHeartbeats 4000000 in
set_option maxRecDepth 100000 in
theorem b_X10_areClear_2 {p : Program} {l : Launch} {e : Env} {s : State} {m : MethodId} {args : Array Value} {below : List Frame} {meth : Method} {c : Code} {X : wX} {A : Nat → Prop} (hE : eV p m c cX10_areClear 8 s args wsX10_areClear RX10 X) (hr : meth.sig.returnType = (some .boolean)) (hlk : meth.locks = false) {Q : Int32 → St → Prop} : ∀ (n : Nat) (σ : St) (v1 : Int32) (H : Heap) (locs : List Loc) (ls : Array Slot), wl_X10_areClear_2 Q n σ v1 → gW X kmL A s.heap σ H locs → lv_has ls 8 [(0, .ref (X.2.1 0)), (1, .int v1)] → W p l e rm_X10_areClear s m args below meth c H locs 0 0 (zI X kmL below args s A Q) (F0 m 2 ls []) := by
  have hx := hE.1.1
  have hb := hE.1.2.1
  intro n
  induction n with
  | zero =>
    intro σ v1 H locs ls hw
    exact False.elim hw
  | succ n ih =>
    intro σ v1 H locs ls hw hG hl
    have hw : wB_X10_areClear_2 Q (wl_X10_areClear_2 Q n) σ v1 := hw
    unfold wB_X10_areClear_2 at hw
    refine lv_iload_n hx hb dX10_areClear_2 rfl (lv_at hl 1 rfl) ?_
    refine lv_iconst (v := 3) hx hb dX10_areClear_3 (by decide) ?_
    refine lv_icmp_ge (tgt := 101) hx hb dX10_areClear_4 (by decide) (fun hc1 => ?_) (fun hc1 => ?_)
    · have hw := hw.1 hc1
      refine lv_iconst (v := 1) hx hb dX10_areClear_101 (by decide) ?_
      exact g_zret hE hG hr hlk dX10_areClear_102 (by decide) hw
    · have hw := hw.2 hc1
      refine lv_iload_n hx hb dX10_areClear_7 rfl (lv_at hl 1 rfl) ?_
      refine lv_iconst (v := 1) hx hb dX10_areClear_8 (by decide) ?_
      refine lv_iadd hx hb dX10_areClear_9 ?_
      refine lv_topi (fun x2 ex2 => ?_)
      have hw := hw x2 ex2
      refine lv_istore_n (lv' := [(2, .int x2), (0, .ref (X.2.1 0)), (1, .int v1)]) hx hb dX10_areClear_10 rfl hl (by decide) rfl (fun ls hl => ?_)
      obtain ⟨n, hw⟩ := hw
      exact b_X10_areClear_11 hE hr hlk ih n _ _ _ _ _ hw hG (lv_sub hl [1, 2, 0] rfl)

set_option maxHeartbeats 4000000 in
set_option maxRecDepth 100000 in
theorem m_X10_areClear (l : Launch) (X : wX) {Q : Int32 → St → Prop} {σ : St} (hw : wp_X10_areClear Q σ) : mI X kmL l yX10_areClear wsX10_areClear rm_X10_areClear [.ref (X.2.1 0)] σ Q := by
  refine mI.of (cc := cX10_areClear) (maxL := 8) (ret := (some .boolean)) (by decide +kernel) rfl (Nat.le_of_ble_eq_true rfl) ?_
  intro A p e s m args below meth c ls hE hr hlk hl hG
  have hx := hE.1.1
  have hb := hE.1.2.1
  unfold wp_X10_areClear at hw
  have hl : lv_has ls 8 [(0, .ref (X.2.1 0))] := hl
  refine lv_iconst (v := 0) hx hb dX10_areClear_0 (by decide) ?_
  refine lv_istore_n (lv' := [(1, .int (0 : Int32)), (0, .ref (X.2.1 0))]) hx hb dX10_areClear_1 rfl hl (by decide) rfl (fun ls hl => ?_)
  obtain ⟨n, hw⟩ := hw
  exact b_X10_areClear_2 hE hr hlk n _ _ _ _ _ hw hG (lv_sub hl [1, 0] rfl)

set_option maxHeartbeats 4000000 in
set_option maxRecDepth 100000 in
theorem b_X10_arm_134 {p : Program} {l : Launch} {e : Env} {s : State} {m : MethodId} {args : Array Value} {below : List Frame} {meth : Method} {c : Code} {X : wX} {A : Nat → Prop} (hE : eV p m c cX10_arm 4 s args wsX10_arm RX10 X) (hr : meth.sig.returnType = (some .int)) (hlk : meth.locks = false) {Q : Int32 → St → Prop} {v1 : Int32} : ∀ (n : Nat) (σ : St) (v3 : Int32) (H : Heap) (locs : List Loc) (ls : Array Slot), wl_X10_arm_134 Q v1 n σ v3 → gW X kmL A s.heap σ H locs → lv_has ls 4 [(0, .ref (X.2.1 0)), (1, .int v1), (3, .int v3)] → W p l e rm_X10_arm s m args below meth c H locs 0 0 (zI X kmL below args s A Q) (F0 m 134 ls []) := by
  have hx := hE.1.1
  have hb := hE.1.2.1
  intro n
  induction n with
  | zero =>
    intro σ v3 H locs ls hw
    exact False.elim hw
  | succ n ih =>
    intro σ v3 H locs ls hw hG hl
    have hw : wB_X10_arm_134 Q (wl_X10_arm_134 Q v1 n) v1 σ v3 := hw
    unfold wB_X10_arm_134 at hw
    refine lv_iload_n hx hb dX10_arm_134 rfl (lv_at hl 2 rfl) ?_
    refine lv_bipush (v := (6)) hx hb dX10_arm_135 (by decide) ?_
    refine lv_icmp_ge (tgt := 180) hx hb dX10_arm_137 (by decide) (fun hc17 => ?_) (fun hc17 => ?_)
    · have hw := hw.1 hc17
      refine lv_bipush (v := (-5)) hx hb dX10_arm_180 (by decide) ?_
      exact g_iret hE hG hr hlk dX10_arm_182 hw
    · have hw := hw.2 hc17
      refine lv_aload_n hx hb dX10_arm_140 rfl (lv_at hl 0 rfl) ?_
      refine g_get (k := 9) hE hG (kd_lt km0 (by decide)) (ce_10 km0) rfl (by decide +kernel) (by decide) (by decide +kernel) rfl rfl dX10_arm_141 ?_
      refine lv_bipush (v := (6)) hx hb dX10_arm_144 (by decide) ?_
      refine lv_iload_n hx hb dX10_arm_146 rfl (lv_at hl 1 rfl) ?_
      refine lv_imul hx hb dX10_arm_147 ?_
      refine lv_iload_n hx hb dX10_arm_148 rfl (lv_at hl 2 rfl) ?_
      refine lv_iadd hx hb dX10_arm_149 ?_
      refine lv_aload_n hx hb dX10_arm_150 rfl (lv_at hl 0 rfl) ?_
      refine g_get (k := 43) hE hG (kd_lt km0 (by decide)) (ce_10 km0) rfl (by decide +kernel) (by decide) (by decide +kernel) rfl rfl dX10_arm_151 ?_
      refine lv_iload_n hx hb dX10_arm_154 rfl (lv_at hl 2 rfl) ?_
      obtain ⟨hi18, hw⟩ := hw
      refine g_iald (n := 6) hE hG (kd_lt km30 (by decide)) (ce_int km30 (by decide) (by decide)) hi18 dX10_arm_155 ?_
      obtain ⟨hi19, hw⟩ := hw
      refine g_iast (n := 18) hE hG (kd_lt km8 (by decide)) (fun _ => ce_int km8 (by decide) (by decide)) hi19 dX10_arm_156 (fun σ20 H locs eσ20 hG => ?_)
      have hw := hw σ20 eσ20
      refine lv_aload_n hx hb dX10_arm_157 rfl (lv_at hl 0 rfl) ?_
      refine g_get (k := 10) hE hG (kd_lt km0 (by decide)) (ce_10 km0) rfl (by decide +kernel) (by decide) (by decide +kernel) rfl rfl dX10_arm_158 ?_
      refine lv_bipush (v := (6)) hx hb dX10_arm_161 (by decide) ?_
      refine lv_iload_n hx hb dX10_arm_163 rfl (lv_at hl 1 rfl) ?_
      refine lv_imul hx hb dX10_arm_164 ?_
      refine lv_iload_n hx hb dX10_arm_165 rfl (lv_at hl 2 rfl) ?_
      refine lv_iadd hx hb dX10_arm_166 ?_
      refine lv_aload_n hx hb dX10_arm_167 rfl (lv_at hl 0 rfl) ?_
      refine g_get (k := 44) hE hG (kd_lt km0 (by decide)) (ce_10 km0) rfl (by decide +kernel) (by decide) (by decide +kernel) rfl rfl dX10_arm_168 ?_
      refine lv_iload_n hx hb dX10_arm_171 rfl (lv_at hl 2 rfl) ?_
      obtain ⟨hi21, hw⟩ := hw
      refine g_iald (n := 6) hE hG (kd_lt km31 (by decide)) (ce_int km31 (by decide) (by decide)) hi21 dX10_arm_172 ?_
      obtain ⟨hi22, hw⟩ := hw
      refine g_iast (n := 18) hE hG (kd_lt km9 (by decide)) (fun _ => ce_int km9 (by decide) (by decide)) hi22 dX10_arm_173 (fun σ23 H locs eσ23 hG => ?_)
      have hw := hw σ23 eσ23
      obtain ⟨x24, ex24⟩ : ∃ z : Int32, z = v3 + (1 : Int32) := ⟨_, rfl⟩
      have hw := hw x24 ex24
      refine lv_iinc (v := x24) (lv' := [(3, .int x24), (0, .ref (X.2.1 0)), (1, .int v1)]) hx hb dX10_arm_174 hl (k := 2) rfl (by rw [ex24]; rfl) (by decide) rfl (fun ls hl => ?_)
      refine lv_goto (tgt := 134) hx hb dX10_arm_177 (by decide) ?_
      exact ih _ _ _ _ _ hw hG (lv_sub hl [1, 2, 0] rfl)

set_option maxHeartbeats 4000000 in
set_option maxRecDepth 100000 in
theorem b_X10_arm_28 {p : Program} {l : Launch} {e : Env} {s : State} {m : MethodId} {args : Array Value} {below : List Frame} {meth : Method} {c : Code} {X : wX} {A : Nat → Prop} (hE : eV p m c cX10_arm 4 s args wsX10_arm RX10 X) (hr : meth.sig.returnType = (some .int)) (hlk : meth.locks = false) {Q : Int32 → St → Prop} {v1 : Int32} {v2 : Int32} : ∀ (n : Nat) (σ : St) (v3 : Int32) (H : Heap) (locs : List Loc) (ls : Array Slot), wl_X10_arm_28 Q v1 v2 n σ v3 → gW X kmL A s.heap σ H locs → lv_has ls 4 [(0, .ref (X.2.1 0)), (1, .int v1), (2, .int v2), (3, .int v3)] → W p l e rm_X10_arm s m args below meth c H locs 0 0 (zI X kmL below args s A Q) (F0 m 28 ls []) := by
  have hx := hE.1.1
  have hb := hE.1.2.1
  intro n
  induction n with
  | zero =>
    intro σ v3 H locs ls hw
    exact False.elim hw
  | succ n ih =>
    intro σ v3 H locs ls hw hG hl
    have hw : wB_X10_arm_28 Q (wl_X10_arm_28 Q v1 v2 n) v1 v2 σ v3 := hw
    unfold wB_X10_arm_28 at hw
    refine lv_iload_n hx hb dX10_arm_28 rfl (lv_at hl 3 rfl) ?_
    refine lv_bipush (v := (6)) hx hb dX10_arm_29 (by decide) ?_
    refine lv_icmp_ge (tgt := 108) hx hb dX10_arm_31 (by decide) (fun hc7 => ?_) (fun hc7 => ?_)
    · have hw := hw.1 hc7
      refine lv_aload_n hx hb dX10_arm_108 rfl (lv_at hl 0 rfl) ?_
      refine g_get (k := 8) hE hG (kd_lt km0 (by decide)) (ce_10 km0) rfl (by decide +kernel) (by decide) (by decide +kernel) rfl rfl dX10_arm_109 ?_
      refine lv_iload_n hx hb dX10_arm_112 rfl (lv_at hl 1 rfl) ?_
      refine lv_aload_n hx hb dX10_arm_113 rfl (lv_at hl 0 rfl) ?_
      refine g_get (k := 11) hE hG (kd_lt km0 (by decide)) (ce_10 km0) rfl (by decide +kernel) (by decide) (by decide +kernel) rfl rfl dX10_arm_114 ?_
      obtain ⟨hi8, hw⟩ := hw
      refine g_iast (n := 3) hE hG (kd_lt km7 (by decide)) (fun _ => ce_int km7 (by decide) (by decide)) hi8 dX10_arm_117 (fun σ9 H locs eσ9 hG => ?_)
      have hw := hw σ9 eσ9
      refine lv_aload_n hx hb dX10_arm_118 rfl (lv_at hl 0 rfl) ?_
      refine g_calli hG (g_runV (rm := rm_X10_areClear) (As := []) (rest := []) (n := 0) hE hG (m_X10_areClear l X hw _) gX10_arm_X10_areClear rfl rfl rfl (by decide +kernel) ⟨Nat.le_of_ble_eq_true rfl, Nat.le_of_ble_eq_true rfl⟩ (kd_lt km0 (by decide)) (ce_10 km0) rfl rfl rfl hl.1 (Nat.le_of_ble_eq_true rfl) dX10_arm_119 ⟨Nat.zero_le _, Nat.zero_le _⟩) (fun r10 σ11 H locs hw hG => ?_)
      refine lv_if_ne (tgt := 183) hx hb dX10_arm_122 (by decide) (fun hc12 => ?_) (fun hc12 => ?_)
      · have hw := hw.1 hc12
        refine lv_aload_n hx hb dX10_arm_183 rfl (lv_at hl 0 rfl) ?_
        refine lv_iconst (v := 0) hx hb dX10_arm_184 (by decide) ?_
        refine g_put (k := 11) (x := (0 : Int32)) (ty := .int) hE hG (kd_lt km0 (by decide)) (ce_10 km0) (by rw [ce_10 km0]; rfl) rfl (by decide +kernel) tyX10 tyX10_ok nmX10 (by decide) (by decide +kernel) rfl rfl (by decide +kernel) rfl rfl (Nat.le_of_ble_eq_true rfl) dX10_arm_185 (fun σ13 H locs eσ13 hG => ?_)
        have hw := hw σ13 eσ13
        refine lv_aload_n hx hb dX10_arm_188 rfl (lv_at hl 0 rfl) ?_
        refine g_get (k := 8) hE hG (kd_lt km0 (by decide)) (ce_10 km0) rfl (by decide +kernel) (by decide) (by decide +kernel) rfl rfl dX10_arm_189 ?_
        refine lv_iload_n hx hb dX10_arm_192 rfl (lv_at hl 1 rfl) ?_
        obtain ⟨hi14, hw⟩ := hw
        refine g_iald (n := 3) hE hG (kd_lt km7 (by decide)) (ce_int km7 (by decide) (by decide)) hi14 dX10_arm_193 ?_
        exact g_iret hE hG hr hlk dX10_arm_194 hw
      · have hw := hw.2 hc12
        refine lv_aload_n hx hb dX10_arm_125 rfl (lv_at hl 0 rfl) ?_
        refine g_get (k := 8) hE hG (kd_lt km0 (by decide)) (ce_10 km0) rfl (by decide +kernel) (by decide) (by decide +kernel) rfl rfl dX10_arm_126 ?_
        refine lv_iload_n hx hb dX10_arm_129 rfl (lv_at hl 1 rfl) ?_
        refine lv_iload_n hx hb dX10_arm_130 rfl (lv_at hl 2 rfl) ?_
        obtain ⟨hi15, hw⟩ := hw
        refine g_iast (n := 3) hE hG (kd_lt km7 (by decide)) (fun _ => ce_int km7 (by decide) (by decide)) hi15 dX10_arm_131 (fun σ16 H locs eσ16 hG => ?_)
        have hw := hw σ16 eσ16
        refine lv_iconst (v := 0) hx hb dX10_arm_132 (by decide) ?_
        refine lv_istore_n (lv' := [(3, .int (0 : Int32)), (0, .ref (X.2.1 0)), (1, .int v1), (2, .int v2)]) hx hb dX10_arm_133 rfl hl (by decide) rfl (fun ls hl => ?_)
        obtain ⟨n, hw⟩ := hw
        exact b_X10_arm_134 hE hr hlk n _ _ _ _ _ hw hG (lv_sub hl [1, 2, 0] rfl)
    · have hw := hw.2 hc7
      refine lv_aload_n hx hb dX10_arm_34 rfl (lv_at hl 0 rfl) ?_
      refine g_get (k := 43) hE hG (kd_lt km0 (by decide)) (ce_10 km0) rfl (by decide +kernel) (by decide) (by decide +kernel) rfl rfl dX10_arm_35 ?_
      refine lv_iload_n hx hb dX10_arm_38 rfl (lv_at hl 3 rfl) ?_
      refine lv_aload_n hx hb dX10_arm_39 rfl (lv_at hl 0 rfl) ?_
      refine g_get (k := 9) hE hG (kd_lt km0 (by decide)) (ce_10 km0) rfl (by decide +kernel) (by decide) (by decide +kernel) rfl rfl dX10_arm_40 ?_
      refine lv_bipush (v := (6)) hx hb dX10_arm_43 (by decide) ?_
      refine lv_iload_n hx hb dX10_arm_45 rfl (lv_at hl 1 rfl) ?_
      refine lv_imul hx hb dX10_arm_46 ?_
      refine lv_iload_n hx hb dX10_arm_47 rfl (lv_at hl 3 rfl) ?_
      refine lv_iadd hx hb dX10_arm_48 ?_
      obtain ⟨hi25, hw⟩ := hw
      refine g_iald (n := 18) hE hG (kd_lt km8 (by decide)) (ce_int km8 (by decide) (by decide)) hi25 dX10_arm_49 ?_
      obtain ⟨hi26, hw⟩ := hw
      refine g_iast (n := 6) hE hG (kd_lt km30 (by decide)) (fun _ => ce_int km30 (by decide) (by decide)) hi26 dX10_arm_50 (fun σ27 H locs eσ27 hG => ?_)
      have hw := hw σ27 eσ27
      refine lv_aload_n hx hb dX10_arm_51 rfl (lv_at hl 0 rfl) ?_
      refine g_get (k := 44) hE hG (kd_lt km0 (by decide)) (ce_10 km0) rfl (by decide +kernel) (by decide) (by decide +kernel) rfl rfl dX10_arm_52 ?_
      refine lv_iload_n hx hb dX10_arm_55 rfl (lv_at hl 3 rfl) ?_
      refine lv_aload_n hx hb dX10_arm_56 rfl (lv_at hl 0 rfl) ?_
      refine g_get (k := 10) hE hG (kd_lt km0 (by decide)) (ce_10 km0) rfl (by decide +kernel) (by decide) (by decide +kernel) rfl rfl dX10_arm_57 ?_
      refine lv_bipush (v := (6)) hx hb dX10_arm_60 (by decide) ?_
      refine lv_iload_n hx hb dX10_arm_62 rfl (lv_at hl 1 rfl) ?_
      refine lv_imul hx hb dX10_arm_63 ?_
      refine lv_iload_n hx hb dX10_arm_64 rfl (lv_at hl 3 rfl) ?_
      refine lv_iadd hx hb dX10_arm_65 ?_
      obtain ⟨hi28, hw⟩ := hw
      refine g_iald (n := 18) hE hG (kd_lt km9 (by decide)) (ce_int km9 (by decide) (by decide)) hi28 dX10_arm_66 ?_
      obtain ⟨hi29, hw⟩ := hw
      refine g_iast (n := 6) hE hG (kd_lt km31 (by decide)) (fun _ => ce_int km31 (by decide) (by decide)) hi29 dX10_arm_67 (fun σ30 H locs eσ30 hG => ?_)
      have hw := hw σ30 eσ30
      refine lv_aload_n hx hb dX10_arm_68 rfl (lv_at hl 0 rfl) ?_
      refine g_get (k := 9) hE hG (kd_lt km0 (by decide)) (ce_10 km0) rfl (by decide +kernel) (by decide) (by decide +kernel) rfl rfl dX10_arm_69 ?_
      refine lv_bipush (v := (6)) hx hb dX10_arm_72 (by decide) ?_
      refine lv_iload_n hx hb dX10_arm_74 rfl (lv_at hl 1 rfl) ?_
      refine lv_imul hx hb dX10_arm_75 ?_
      refine lv_iload_n hx hb dX10_arm_76 rfl (lv_at hl 3 rfl) ?_
      refine lv_iadd hx hb dX10_arm_77 ?_
      refine lv_aload_n hx hb dX10_arm_78 rfl (lv_at hl 0 rfl) ?_
      refine g_get (k := 12) hE hG (kd_lt km0 (by decide)) (ce_10 km0) rfl (by decide +kernel) (by decide) (by decide +kernel) rfl rfl dX10_arm_79 ?_
      refine lv_iload_n hx hb dX10_arm_82 rfl (lv_at hl 3 rfl) ?_
      obtain ⟨hi31, hw⟩ := hw
      refine g_iald (n := 6) hE hG (kd_lt km10 (by decide)) (ce_int km10 (by decide) (by decide)) hi31 dX10_arm_83 ?_
      obtain ⟨hi32, hw⟩ := hw
      refine g_iast (n := 18) hE hG (kd_lt km8 (by decide)) (fun _ => ce_int km8 (by decide) (by decide)) hi32 dX10_arm_84 (fun σ33 H locs eσ33 hG => ?_)
      have hw := hw σ33 eσ33
      refine lv_aload_n hx hb dX10_arm_85 rfl (lv_at hl 0 rfl) ?_
      refine g_get (k := 10) hE hG (kd_lt km0 (by decide)) (ce_10 km0) rfl (by decide +kernel) (by decide) (by decide +kernel) rfl rfl dX10_arm_86 ?_
      refine lv_bipush (v := (6)) hx hb dX10_arm_89 (by decide) ?_
      refine lv_iload_n hx hb dX10_arm_91 rfl (lv_at hl 1 rfl) ?_
      refine lv_imul hx hb dX10_arm_92 ?_
      refine lv_iload_n hx hb dX10_arm_93 rfl (lv_at hl 3 rfl) ?_
      refine lv_iadd hx hb dX10_arm_94 ?_
      refine lv_aload_n hx hb dX10_arm_95 rfl (lv_at hl 0 rfl) ?_
      refine g_get (k := 13) hE hG (kd_lt km0 (by decide)) (ce_10 km0) rfl (by decide +kernel) (by decide) (by decide +kernel) rfl rfl dX10_arm_96 ?_
      refine lv_iload_n hx hb dX10_arm_99 rfl (lv_at hl 3 rfl) ?_
      obtain ⟨hi34, hw⟩ := hw
      refine g_iald (n := 6) hE hG (kd_lt km11 (by decide)) (ce_int km11 (by decide) (by decide)) hi34 dX10_arm_100 ?_
      obtain ⟨hi35, hw⟩ := hw
      refine g_iast (n := 18) hE hG (kd_lt km9 (by decide)) (fun _ => ce_int km9 (by decide) (by decide)) hi35 dX10_arm_101 (fun σ36 H locs eσ36 hG => ?_)
      have hw := hw σ36 eσ36
      obtain ⟨x37, ex37⟩ : ∃ z : Int32, z = v3 + (1 : Int32) := ⟨_, rfl⟩
      have hw := hw x37 ex37
      refine lv_iinc (v := x37) (lv' := [(3, .int x37), (0, .ref (X.2.1 0)), (1, .int v1), (2, .int v2)]) hx hb dX10_arm_102 hl (k := 3) rfl (by rw [ex37]; rfl) (by decide) rfl (fun ls hl => ?_)
      refine lv_goto (tgt := 28) hx hb dX10_arm_105 (by decide) ?_
      exact ih _ _ _ _ _ hw hG (lv_sub hl [1, 2, 3, 0] rfl)

set_option maxHeartbeats 4000000 in
set_option maxRecDepth 100000 in
theorem m_X10_arm (l : Launch) (X : wX) {Q : Int32 → St → Prop} {v1 : Int32} {σ : St} (hw : wp_X10_arm Q v1 σ) : mI X kmL l yX10_arm wsX10_arm rm_X10_arm [.ref (X.2.1 0), .int v1] σ Q := by
  refine mI.of (cc := cX10_arm) (maxL := 4) (ret := (some .int)) (by decide +kernel) rfl (Nat.le_of_ble_eq_true rfl) ?_
  intro A p e s m args below meth c ls hE hr hlk hl hG
  have hx := hE.1.1
  have hb := hE.1.2.1
  unfold wp_X10_arm at hw
  have hl : lv_has ls 4 [(0, .ref (X.2.1 0)), (1, .int v1)] := hl
  refine lv_iload_n hx hb dX10_arm_0 rfl (lv_at hl 1 rfl) ?_
  refine g_calli hG (g_runS (rm := rm_X10_isArm) (As := [.int v1]) (rest := []) (n := 1) hE hG (m_X10_isArm l X hw _) gX10_arm_X10_isArm rfl rfl rfl (by decide +kernel) ⟨Nat.le_of_ble_eq_true rfl, Nat.le_of_ble_eq_true rfl⟩ rfl hl.1 (Nat.le_of_ble_eq_true rfl) dX10_arm_1 ⟨Nat.zero_le _, Nat.zero_le _⟩) (fun r1 σ2 H locs hw hG => ?_)
  refine lv_if_ne (tgt := 9) hx hb dX10_arm_4 (by decide) (fun hc3 => ?_) (fun hc3 => ?_)
  · have hw := hw.1 hc3
    refine lv_aload_n hx hb dX10_arm_9 rfl (lv_at hl 0 rfl) ?_
    refine g_get (k := 11) hE hG (kd_lt km0 (by decide)) (ce_10 km0) rfl (by decide +kernel) (by decide) (by decide +kernel) rfl rfl dX10_arm_10 ?_
    refine lv_if_ne (tgt := 19) hx hb dX10_arm_13 (by decide) (fun hc4 => ?_) (fun hc4 => ?_)
    · have hw := hw.1 hc4
      refine lv_aload_n hx hb dX10_arm_19 rfl (lv_at hl 0 rfl) ?_
      refine g_get (k := 8) hE hG (kd_lt km0 (by decide)) (ce_10 km0) rfl (by decide +kernel) (by decide) (by decide +kernel) rfl rfl dX10_arm_20 ?_
      refine lv_iload_n hx hb dX10_arm_23 rfl (lv_at hl 1 rfl) ?_
      obtain ⟨hi5, hw⟩ := hw
      refine g_iald (n := 3) hE hG (kd_lt km7 (by decide)) (ce_int km7 (by decide) (by decide)) hi5 dX10_arm_24 ?_
      refine lv_topi (fun x6 ex6 => ?_)
      have hw := hw x6 ex6
      refine lv_istore_n (lv' := [(2, .int x6), (0, .ref (X.2.1 0)), (1, .int v1)]) hx hb dX10_arm_25 rfl hl (by decide) rfl (fun ls hl => ?_)
      refine lv_iconst (v := 0) hx hb dX10_arm_26 (by decide) ?_
      refine lv_istore_n (lv' := [(3, .int (0 : Int32)), (2, .int x6), (0, .ref (X.2.1 0)), (1, .int v1)]) hx hb dX10_arm_27 rfl hl (by decide) rfl (fun ls hl => ?_)
      obtain ⟨n, hw⟩ := hw
      exact b_X10_arm_28 hE hr hlk n _ _ _ _ _ hw hG (lv_sub hl [2, 3, 1, 0] rfl)
    · have hw := hw.2 hc4
      refine lv_bipush (v := (-4)) hx hb dX10_arm_16 (by decide) ?_
      exact g_iret hE hG hr hlk dX10_arm_18 hw
  · have hw := hw.2 hc3
    refine lv_iconst (v := (-1)) hx hb dX10_arm_7 (by decide) ?_
    exact g_iret hE hG hr hlk dX10_arm_8 hw

