/-! contracts, by program -/
set_option maxHeartbeats 4000000 in
set_option maxRecDepth 100000 in
theorem b_X10_brokenBy_2 {p : Program} {l : Launch} {e : Env} {s : State} {m : MethodId} {args : Array Value} {below : List Frame} {meth : Method} {c : Code} {X : wX} {A : Nat → Prop} (hE : eV p m c cX10_brokenBy 3 s args wsX10_brokenBy RX10 X) (hr : meth.sig.returnType = (some .int)) (hlk : meth.locks = false) {Q : Int32 → St → Prop} {v1 : Int32} : ∀ (n : Nat) (σ : St) (v2 : Int32) (H : Heap) (locs : List Loc) (ls : Array Slot), wl_X10_brokenBy_2 Q v1 n σ v2 → gW X kmL A s.heap σ H locs → lv_has ls 3 [(0, .ref (X.2.1 0)), (1, .int v1), (2, .int v2)] → W p l e rm_X10_brokenBy s m args below meth c H locs 0 0 (zI X kmL below args s A Q) (F0 m 2 ls []) := by
  have hx := hE.1.1
  have hb := hE.1.2.1
  intro n
  induction n with
  | zero =>
    intro σ v2 H locs ls hw
    exact False.elim hw
  | succ n ih =>
    intro σ v2 H locs ls hw hG hl
    have hw : wB_X10_brokenBy_2 Q (wl_X10_brokenBy_2 Q v1 n) v1 σ v2 := hw
    unfold wB_X10_brokenBy_2 at hw
    refine lv_iload_n hx hb dX10_brokenBy_2 rfl (lv_at hl 2 rfl) ?_
    refine lv_aload_n hx hb dX10_brokenBy_3 rfl (lv_at hl 0 rfl) ?_
    refine g_get (k := 2) hE hG (kd_lt km0 (by decide)) (ce_10 km0) rfl (by decide +kernel) (by decide) (by decide +kernel) rfl rfl dX10_brokenBy_4 ?_
    refine lv_icmp_ge (tgt := 31) hx hb dX10_brokenBy_7 (by decide) (fun hc1 => ?_) (fun hc1 => ?_)
    · have hw := hw.1 hc1
      refine lv_iconst (v := (-1)) hx hb dX10_brokenBy_31 (by decide) ?_
      exact g_iret hE hG hr hlk dX10_brokenBy_32 hw
    · have hw := hw.2 hc1
      refine lv_aload_n hx hb dX10_brokenBy_10 rfl (lv_at hl 0 rfl) ?_
      refine lv_iload_n hx hb dX10_brokenBy_11 rfl (lv_at hl 1 rfl) ?_
      refine lv_iload_n hx hb dX10_brokenBy_12 rfl (lv_at hl 2 rfl) ?_
      refine lv_aload_n hx hb dX10_brokenBy_13 rfl (lv_at hl 0 rfl) ?_
      refine g_get (k := 7) hE hG (kd_lt km0 (by decide)) (ce_10 km0) rfl (by decide +kernel) (by decide) (by decide +kernel) rfl rfl dX10_brokenBy_14 ?_
      refine g_calli hG (g_runV (rm := rm_X10_keeps) (As := [.int v1, .int v2, .int (σ 0 7)]) (rest := []) (n := 3) hE hG (m_X10_keeps l X hw _) gX10_brokenBy_X10_keeps rfl rfl rfl (by decide +kernel) ⟨Nat.le_of_ble_eq_true rfl, Nat.le_of_ble_eq_true rfl⟩ (kd_lt km0 (by decide)) (ce_10 km0) rfl rfl rfl hl.1 (Nat.le_of_ble_eq_true rfl) dX10_brokenBy_17 ⟨Nat.zero_le _, Nat.zero_le _⟩) (fun r2 σ3 H locs hw hG => ?_)
      refine lv_if_ne (tgt := 25) hx hb dX10_brokenBy_20 (by decide) (fun hc4 => ?_) (fun hc4 => ?_)
      · have hw := hw.1 hc4
        obtain ⟨x5, ex5⟩ : ∃ z : Int32, z = v2 + (1 : Int32) := ⟨_, rfl⟩
        have hw := hw x5 ex5
        refine lv_iinc (v := x5) (lv' := [(2, .int x5), (0, .ref (X.2.1 0)), (1, .int v1)]) hx hb dX10_brokenBy_25 hl (k := 2) rfl (by rw [ex5]; rfl) (by decide) rfl (fun ls hl => ?_)
        refine lv_goto (tgt := 2) hx hb dX10_brokenBy_28 (by decide) ?_
        exact ih _ _ _ _ _ hw hG (lv_sub hl [1, 2, 0] rfl)
      · have hw := hw.2 hc4
        refine lv_iload_n hx hb dX10_brokenBy_23 rfl (lv_at hl 2 rfl) ?_
        exact g_iret hE hG hr hlk dX10_brokenBy_24 hw

set_option maxHeartbeats 4000000 in
set_option maxRecDepth 100000 in
theorem m_X10_brokenBy (l : Launch) (X : wX) {Q : Int32 → St → Prop} {v1 : Int32} {σ : St} (hw : wp_X10_brokenBy Q v1 σ) : mI X kmL l yX10_brokenBy wsX10_brokenBy rm_X10_brokenBy [.ref (X.2.1 0), .int v1] σ Q := by
  refine mI.of (cc := cX10_brokenBy) (maxL := 3) (ret := (some .int)) (by decide +kernel) rfl (Nat.le_of_ble_eq_true rfl) ?_
  intro A p e s m args below meth c ls hE hr hlk hl hG
  have hx := hE.1.1
  have hb := hE.1.2.1
  unfold wp_X10_brokenBy at hw
  have hl : lv_has ls 3 [(0, .ref (X.2.1 0)), (1, .int v1)] := hl
  refine lv_iconst (v := 0) hx hb dX10_brokenBy_0 (by decide) ?_
  refine lv_istore_n (lv' := [(2, .int (0 : Int32)), (0, .ref (X.2.1 0)), (1, .int v1)]) hx hb dX10_brokenBy_1 rfl hl (by decide) rfl (fun ls hl => ?_)
  obtain ⟨n, hw⟩ := hw
  exact b_X10_brokenBy_2 hE hr hlk n _ _ _ _ _ hw hG (lv_sub hl [1, 2, 0] rfl)

set_option maxHeartbeats 4000000 in
set_option maxRecDepth 100000 in
theorem b_X10_brokenAt_12 {p : Program} {l : Launch} {e : Env} {s : State} {m : MethodId} {args : Array Value} {below : List Frame} {meth : Method} {c : Code} {X : wX} {A : Nat → Prop} (hE : eV p m c cX10_brokenAt 4 s args wsX10_brokenAt RX10 X) (hr : meth.sig.returnType = (some .int)) (hlk : meth.locks = false) {Q : Int32 → St → Prop} {L2 : St → Int32 → Prop} {v1 : Int32} {v2 : Int32} (hL2 : ∀ (σ : St) (v2 : Int32) (H : Heap) (locs : List Loc) (ls : Array Slot), L2 σ v2 → gW X kmL A s.heap σ H locs → lv_has ls 4 [(0, .ref (X.2.1 0)), (1, .int v1), (2, .int v2)] → W p l e rm_X10_brokenAt s m args below meth c H locs 0 0 (zI X kmL below args s A Q) (F0 m 2 ls [])) : ∀ (n : Nat) (σ : St) (v3 : Int32) (H : Heap) (locs : List Loc) (ls : Array Slot), wl_X10_brokenAt_12 Q L2 v1 v2 n σ v3 → gW X kmL A s.heap σ H locs → lv_has ls 4 [(0, .ref (X.2.1 0)), (1, .int v1), (2, .int v2), (3, .int v3)] → W p l e rm_X10_brokenAt s m args below meth c H locs 0 0 (zI X kmL below args s A Q) (F0 m 12 ls []) := by
  have hx := hE.1.1
  have hb := hE.1.2.1
  intro n
  induction n with
  | zero =>
    intro σ v3 H locs ls hw
    exact False.elim hw
  | succ n ih =>
    intro σ v3 H locs ls hw hG hl
    have hw : wB_X10_brokenAt_12 Q L2 (wl_X10_brokenAt_12 Q L2 v1 v2 n) v1 v2 σ v3 := hw
    unfold wB_X10_brokenAt_12 at hw
    refine lv_iload_n hx hb dX10_brokenAt_12 rfl (lv_at hl 3 rfl) ?_
    refine lv_bipush (v := (6)) hx hb dX10_brokenAt_13 (by decide) ?_
    refine lv_icmp_ge (tgt := 36) hx hb dX10_brokenAt_15 (by decide) (fun hc2 => ?_) (fun hc2 => ?_)
    · have hw := hw.1 hc2
      obtain ⟨x3, ex3⟩ : ∃ z : Int32, z = v2 + (1 : Int32) := ⟨_, rfl⟩
      have hw := hw x3 ex3
      refine lv_iinc (v := x3) (lv' := [(2, .int x3), (0, .ref (X.2.1 0)), (1, .int v1), (3, .int v3)]) hx hb dX10_brokenAt_36 hl (k := 2) rfl (by rw [ex3]; rfl) (by decide) rfl (fun ls hl => ?_)
      refine lv_goto (tgt := 2) hx hb dX10_brokenAt_39 (by decide) ?_
      exact hL2 _ _ _ _ _ hw hG (lv_sub hl [1, 2, 0] rfl)
    · have hw := hw.2 hc2
      refine lv_aload_n hx hb dX10_brokenAt_18 rfl (lv_at hl 0 rfl) ?_
      refine lv_iload_n hx hb dX10_brokenAt_19 rfl (lv_at hl 3 rfl) ?_
      refine lv_iload_n hx hb dX10_brokenAt_20 rfl (lv_at hl 2 rfl) ?_
      refine lv_iload_n hx hb dX10_brokenAt_21 rfl (lv_at hl 1 rfl) ?_
      refine g_calli hG (g_runV (rm := rm_X10_keeps) (As := [.int v3, .int v2, .int v1]) (rest := []) (n := 3) hE hG (m_X10_keeps l X hw _) gX10_brokenAt_X10_keeps rfl rfl rfl (by decide +kernel) ⟨Nat.le_of_ble_eq_true rfl, Nat.le_of_ble_eq_true rfl⟩ (kd_lt km0 (by decide)) (ce_10 km0) rfl rfl rfl hl.1 (Nat.le_of_ble_eq_true rfl) dX10_brokenAt_22 ⟨Nat.zero_le _, Nat.zero_le _⟩) (fun r4 σ5 H locs hw hG => ?_)
      refine lv_if_ne (tgt := 30) hx hb dX10_brokenAt_25 (by decide) (fun hc6 => ?_) (fun hc6 => ?_)
      · have hw := hw.1 hc6
        obtain ⟨x7, ex7⟩ : ∃ z : Int32, z = v3 + (1 : Int32) := ⟨_, rfl⟩
        have hw := hw x7 ex7
        refine lv_iinc (v := x7) (lv' := [(3, .int x7), (0, .ref (X.2.1 0)), (1, .int v1), (2, .int v2)]) hx hb dX10_brokenAt_30 hl (k := 3) rfl (by rw [ex7]; rfl) (by decide) rfl (fun ls hl => ?_)
        refine lv_goto (tgt := 12) hx hb dX10_brokenAt_33 (by decide) ?_
        exact ih _ _ _ _ _ hw hG (lv_sub hl [1, 2, 3, 0] rfl)
      · have hw := hw.2 hc6
        refine lv_iload_n hx hb dX10_brokenAt_28 rfl (lv_at hl 2 rfl) ?_
        exact g_iret hE hG hr hlk dX10_brokenAt_29 hw

set_option maxHeartbeats 4000000 in
set_option maxRecDepth 100000 in
theorem b_X10_brokenAt_2 {p : Program} {l : Launch} {e : Env} {s : State} {m : MethodId} {args : Array Value} {below : List Frame} {meth : Method} {c : Code} {X : wX} {A : Nat → Prop} (hE : eV p m c cX10_brokenAt 4 s args wsX10_brokenAt RX10 X) (hr : meth.sig.returnType = (some .int)) (hlk : meth.locks = false) {Q : Int32 → St → Prop} {v1 : Int32} : ∀ (n : Nat) (σ : St) (v2 : Int32) (H : Heap) (locs : List Loc) (ls : Array Slot), wl_X10_brokenAt_2 Q v1 n σ v2 → gW X kmL A s.heap σ H locs → lv_has ls 4 [(0, .ref (X.2.1 0)), (1, .int v1), (2, .int v2)] → W p l e rm_X10_brokenAt s m args below meth c H locs 0 0 (zI X kmL below args s A Q) (F0 m 2 ls []) := by
  have hx := hE.1.1
  have hb := hE.1.2.1
  intro n
  induction n with
  | zero =>
    intro σ v2 H locs ls hw
    exact False.elim hw
  | succ n ih =>
    intro σ v2 H locs ls hw hG hl
    have hw : wB_X10_brokenAt_2 Q (wl_X10_brokenAt_2 Q v1 n) v1 σ v2 := hw
    unfold wB_X10_brokenAt_2 at hw
    refine lv_iload_n hx hb dX10_brokenAt_2 rfl (lv_at hl 2 rfl) ?_
    refine lv_aload_n hx hb dX10_brokenAt_3 rfl (lv_at hl 0 rfl) ?_
    refine g_get (k := 2) hE hG (kd_lt km0 (by decide)) (ce_10 km0) rfl (by decide +kernel) (by decide) (by decide +kernel) rfl rfl dX10_brokenAt_4 ?_
    refine lv_icmp_ge (tgt := 42) hx hb dX10_brokenAt_7 (by decide) (fun hc1 => ?_) (fun hc1 => ?_)
    · have hw := hw.1 hc1
      refine lv_iconst (v := (-1)) hx hb dX10_brokenAt_42 (by decide) ?_
      exact g_iret hE hG hr hlk dX10_brokenAt_43 hw
    · have hw := hw.2 hc1
      refine lv_iconst (v := 0) hx hb dX10_brokenAt_10 (by decide) ?_
      refine lv_istore_n (lv' := [(3, .int (0 : Int32)), (0, .ref (X.2.1 0)), (1, .int v1), (2, .int v2)]) hx hb dX10_brokenAt_11 rfl hl (by decide) rfl (fun ls hl => ?_)
      obtain ⟨n, hw⟩ := hw
      exact b_X10_brokenAt_12 hE hr hlk ih n _ _ _ _ _ hw hG (lv_sub hl [1, 2, 3, 0] rfl)

set_option maxHeartbeats 4000000 in
set_option maxRecDepth 100000 in
theorem m_X10_brokenAt (l : Launch) (X : wX) {Q : Int32 → St → Prop} {v1 : Int32} {σ : St} (hw : wp_X10_brokenAt Q v1 σ) : mI X kmL l yX10_brokenAt wsX10_brokenAt rm_X10_brokenAt [.ref (X.2.1 0), .int v1] σ Q := by
  refine mI.of (cc := cX10_brokenAt) (maxL := 4) (ret := (some .int)) (by decide +kernel) rfl (Nat.le_of_ble_eq_true rfl) ?_
  intro A p e s m args below meth c ls hE hr hlk hl hG
  have hx := hE.1.1
  have hb := hE.1.2.1
  unfold wp_X10_brokenAt at hw
  have hl : lv_has ls 4 [(0, .ref (X.2.1 0)), (1, .int v1)] := hl
  refine lv_iconst (v := 0) hx hb dX10_brokenAt_0 (by decide) ?_
  refine lv_istore_n (lv' := [(2, .int (0 : Int32)), (0, .ref (X.2.1 0)), (1, .int v1)]) hx hb dX10_brokenAt_1 rfl hl (by decide) rfl (fun ls hl => ?_)
  obtain ⟨n, hw⟩ := hw
  exact b_X10_brokenAt_2 hE hr hlk n _ _ _ _ _ hw hG (lv_sub hl [1, 2, 0] rfl)

set_option maxHeartbeats 4000000 in
set_option maxRecDepth 100000 in
theorem m_X10_maySet (l : Launch) (X : wX) {Q : Int32 → St → Prop} {v1 : Int32} {v2 : Int32} {v3 : Int32} {v4 : Int32} {σ : St} (hw : wp_X10_maySet Q v1 v2 v3 v4 σ) : mI X kmL l yX10_maySet wsX10_maySet rm_X10_maySet [.ref (X.2.1 0), .int v1, .int v2, .int v3, .int v4] σ Q := by
  refine mI.of (cc := cX10_maySet) (maxL := 5) (ret := (some .boolean)) (by decide +kernel) rfl (Nat.le_of_ble_eq_true rfl) ?_
  intro A p e s m args below meth c ls hE hr hlk hl hG
  have hx := hE.1.1
  have hb := hE.1.2.1
  unfold wp_X10_maySet at hw
  have hl : lv_has ls 5 [(0, .ref (X.2.1 0)), (1, .int v1), (2, .int v2), (3, .int v3), (4, .int v4)] := hl
  refine lv_iload_n hx hb dX10_maySet_0 rfl (lv_at hl 1 rfl) ?_
  refine g_calli hG (g_runS (rm := rm_X10_isSection) (As := [.int v1]) (rest := []) (n := 1) hE hG (m_X10_isSection l X hw _) gX10_maySet_X10_isSection rfl rfl rfl (by decide +kernel) ⟨Nat.le_of_ble_eq_true rfl, Nat.le_of_ble_eq_true rfl⟩ rfl hl.1 (Nat.le_of_ble_eq_true rfl) dX10_maySet_1 ⟨Nat.zero_le _, Nat.zero_le _⟩) (fun r1 σ2 H locs hw hG => ?_)
  refine lv_if_eq (tgt := 39) hx hb dX10_maySet_4 (by decide) (fun hc3 => ?_) (fun hc3 => ?_)
  · have hw := hw.1 hc3
    refine lv_iconst (v := 0) hx hb dX10_maySet_39 (by decide) ?_
    exact g_zret hE hG hr hlk dX10_maySet_40 (by decide) hw
  · have hw := hw.2 hc3
    refine lv_iload_n hx hb dX10_maySet_7 rfl (lv_at hl 2 rfl) ?_
    refine g_calli hG (g_runS (rm := rm_X10_isAct) (As := [.int v2]) (rest := []) (n := 1) hE hG (m_X10_isAct l X hw _) gX10_maySet_X10_isAct rfl rfl rfl (by decide +kernel) ⟨Nat.le_of_ble_eq_true rfl, Nat.le_of_ble_eq_true rfl⟩ rfl hl.1 (Nat.le_of_ble_eq_true rfl) dX10_maySet_8 ⟨Nat.zero_le _, Nat.zero_le _⟩) (fun r4 σ5 H locs hw hG => ?_)
    refine lv_if_eq (tgt := 39) hx hb dX10_maySet_11 (by decide) (fun hc6 => ?_) (fun hc6 => ?_)
    · have hw := hw.1 hc6
      refine lv_iconst (v := 0) hx hb dX10_maySet_39 (by decide) ?_
      exact g_zret hE hG hr hlk dX10_maySet_40 (by decide) hw
    · have hw := hw.2 hc6
      refine lv_iload_n hx hb dX10_maySet_14 rfl (lv_at hl 3 rfl) ?_
      refine g_calli hG (g_runS (rm := rm_X10_isDegree) (As := [.int v3]) (rest := []) (n := 1) hE hG (m_X10_isDegree l X hw _) gX10_maySet_X10_isDegree rfl rfl rfl (by decide +kernel) ⟨Nat.le_of_ble_eq_true rfl, Nat.le_of_ble_eq_true rfl⟩ rfl hl.1 (Nat.le_of_ble_eq_true rfl) dX10_maySet_15 ⟨Nat.zero_le _, Nat.zero_le _⟩) (fun r7 σ8 H locs hw hG => ?_)
      refine lv_if_eq (tgt := 39) hx hb dX10_maySet_18 (by decide) (fun hc9 => ?_) (fun hc9 => ?_)
      · have hw := hw.1 hc9
        refine lv_iconst (v := 0) hx hb dX10_maySet_39 (by decide) ?_
        exact g_zret hE hG hr hlk dX10_maySet_40 (by decide) hw
      · have hw := hw.2 hc9
        refine lv_iload hx hb dX10_maySet_21 (lv_at hl 4 rfl) ?_
        refine g_calli hG (g_runS (rm := rm_X10_isDegree) (As := [.int v4]) (rest := []) (n := 1) hE hG (m_X10_isDegree l X hw _) gX10_maySet_X10_isDegree rfl rfl rfl (by decide +kernel) ⟨Nat.le_of_ble_eq_true rfl, Nat.le_of_ble_eq_true rfl⟩ rfl hl.1 (Nat.le_of_ble_eq_true rfl) dX10_maySet_23 ⟨Nat.zero_le _, Nat.zero_le _⟩) (fun r10 σ11 H locs hw hG => ?_)
        refine lv_if_eq (tgt := 39) hx hb dX10_maySet_26 (by decide) (fun hc12 => ?_) (fun hc12 => ?_)
        · have hw := hw.1 hc12
          refine lv_iconst (v := 0) hx hb dX10_maySet_39 (by decide) ?_
          exact g_zret hE hG hr hlk dX10_maySet_40 (by decide) hw
        · have hw := hw.2 hc12
          refine lv_iload_n hx hb dX10_maySet_29 rfl (lv_at hl 3 rfl) ?_
          refine lv_iload hx hb dX10_maySet_30 (lv_at hl 4 rfl) ?_
          refine lv_icmp_eq (tgt := 39) hx hb dX10_maySet_32 (by decide) (fun hc13 => ?_) (fun hc13 => ?_)
          · have hw := hw.1 hc13
            refine lv_iconst (v := 0) hx hb dX10_maySet_39 (by decide) ?_
            exact g_zret hE hG hr hlk dX10_maySet_40 (by decide) hw
          · have hw := hw.2 hc13
            refine lv_iconst (v := 1) hx hb dX10_maySet_35 (by decide) ?_
            refine lv_goto (tgt := 40) hx hb dX10_maySet_36 (by decide) ?_
            exact g_zret hE hG hr hlk dX10_maySet_40 (by decide) hw

set_option maxHeartbeats 4000000 in
set_option maxRecDepth 100000 in
theorem m_X10_set (l : Launch) (X : wX) {Q : Int32 → St → Prop} {v1 : Int32} {v2 : Int32} {v3 : Int32} {v4 : Int32} {σ : St} (hw : wp_X10_set Q v1 v2 v3 v4 σ) : mI X kmL l yX10_set wsX10_set rm_X10_set [.ref (X.2.1 0), .int v1, .int v2, .int v3, .int v4] σ Q := by
  refine mI.of (cc := cX10_set) (maxL := 9) (ret := (some .int)) (by decide +kernel) rfl (Nat.le_of_ble_eq_true rfl) ?_
  intro A p e s m args below meth c ls hE hr hlk hl hG
  have hx := hE.1.1
  have hb := hE.1.2.1
  unfold wp_X10_set at hw
  have hl : lv_has ls 9 [(0, .ref (X.2.1 0)), (1, .int v1), (2, .int v2), (3, .int v3), (4, .int v4)] := hl
  refine lv_aload_n hx hb dX10_set_0 rfl (lv_at hl 0 rfl) ?_
  refine lv_iload_n hx hb dX10_set_1 rfl (lv_at hl 1 rfl) ?_
  refine lv_iload_n hx hb dX10_set_2 rfl (lv_at hl 2 rfl) ?_
  refine lv_iload_n hx hb dX10_set_3 rfl (lv_at hl 3 rfl) ?_
  refine lv_iload hx hb dX10_set_4 (lv_at hl 4 rfl) ?_
  refine g_calli hG (g_runV (rm := rm_X10_maySet) (As := [.int v1, .int v2, .int v3, .int v4]) (rest := []) (n := 4) hE hG (m_X10_maySet l X hw _) gX10_set_X10_maySet rfl rfl rfl (by decide +kernel) ⟨Nat.le_of_ble_eq_true rfl, Nat.le_of_ble_eq_true rfl⟩ (kd_lt km0 (by decide)) (ce_10 km0) rfl rfl rfl hl.1 (Nat.le_of_ble_eq_true rfl) dX10_set_6 ⟨Nat.zero_le _, Nat.zero_le _⟩) (fun r1 σ2 H locs hw hG => ?_)
  refine lv_if_ne (tgt := 14) hx hb dX10_set_9 (by decide) (fun hc3 => ?_) (fun hc3 => ?_)
  · have hw := hw.1 hc3
    refine lv_bipush (v := (8)) hx hb dX10_set_14 (by decide) ?_
    refine lv_iload_n hx hb dX10_set_16 rfl (lv_at hl 1 rfl) ?_
    refine lv_imul hx hb dX10_set_17 ?_
    refine lv_iload_n hx hb dX10_set_18 rfl (lv_at hl 2 rfl) ?_
    refine lv_iadd hx hb dX10_set_19 ?_
    refine lv_topi (fun x4 ex4 => ?_)
    have hw := hw x4 ex4
    refine lv_istore (lv' := [(5, .int x4), (0, .ref (X.2.1 0)), (1, .int v1), (2, .int v2), (3, .int v3), (4, .int v4)]) hx hb dX10_set_20 hl (by decide) rfl (fun ls hl => ?_)
    refine lv_aload_n hx hb dX10_set_22 rfl (lv_at hl 1 rfl) ?_
    refine g_get (k := 0) hE hG (kd_lt km0 (by decide)) (ce_10 km0) rfl (by decide +kernel) (by decide) (by decide +kernel) rfl rfl dX10_set_23 ?_
    refine lv_iload hx hb dX10_set_26 (lv_at hl 0 rfl) ?_
    obtain ⟨hi5, hw⟩ := hw
    refine g_iald (n := 48) hE hG (kd_lt km1 (by decide)) (ce_int km1 (by decide) (by decide)) hi5 dX10_set_28 ?_
    refine lv_topi (fun x6 ex6 => ?_)
    have hw := hw x6 ex6
    refine lv_istore (lv' := [(6, .int x6), (5, .int x4), (0, .ref (X.2.1 0)), (1, .int v1), (2, .int v2), (3, .int v3), (4, .int v4)]) hx hb dX10_set_29 hl (by decide) rfl (fun ls hl => ?_)
    refine lv_aload_n hx hb dX10_set_31 rfl (lv_at hl 2 rfl) ?_
    refine g_get (k := 1) hE hG (kd_lt km0 (by decide)) (ce_10 km0) rfl (by decide +kernel) (by decide) (by decide +kernel) rfl rfl dX10_set_32 ?_
    refine lv_iload hx hb dX10_set_35 (lv_at hl 1 rfl) ?_
    obtain ⟨hi7, hw⟩ := hw
    refine g_iald (n := 48) hE hG (kd_lt km2 (by decide)) (ce_int km2 (by decide) (by decide)) hi7 dX10_set_37 ?_
    refine lv_topi (fun x8 ex8 => ?_)
    have hw := hw x8 ex8
    refine lv_istore (lv' := [(7, .int x8), (6, .int x6), (5, .int x4), (0, .ref (X.2.1 0)), (1, .int v1), (2, .int v2), (3, .int v3), (4, .int v4)]) hx hb dX10_set_38 hl (by decide) rfl (fun ls hl => ?_)
    refine lv_aload_n hx hb dX10_set_40 rfl (lv_at hl 3 rfl) ?_
    refine g_get (k := 0) hE hG (kd_lt km0 (by decide)) (ce_10 km0) rfl (by decide +kernel) (by decide) (by decide +kernel) rfl rfl dX10_set_41 ?_
    refine lv_iload hx hb dX10_set_44 (lv_at hl 2 rfl) ?_
    refine lv_iload_n hx hb dX10_set_46 rfl (lv_at hl 6 rfl) ?_
    obtain ⟨hi9, hw⟩ := hw
    refine g_iast (n := 48) hE hG (kd_lt km1 (by decide)) (fun _ => ce_int km1 (by decide) (by decide)) hi9 dX10_set_47 (fun σ10 H locs eσ10 hG => ?_)
    have hw := hw σ10 eσ10
    refine lv_aload_n hx hb dX10_set_48 rfl (lv_at hl 3 rfl) ?_
    refine g_get (k := 1) hE hG (kd_lt km0 (by decide)) (ce_10 km0) rfl (by decide +kernel) (by decide) (by decide +kernel) rfl rfl dX10_set_49 ?_
    refine lv_iload hx hb dX10_set_52 (lv_at hl 2 rfl) ?_
    refine lv_iload hx hb dX10_set_54 (lv_at hl 7 rfl) ?_
    obtain ⟨hi11, hw⟩ := hw
    refine g_iast (n := 48) hE hG (kd_lt km2 (by decide)) (fun _ => ce_int km2 (by decide) (by decide)) hi11 dX10_set_56 (fun σ12 H locs eσ12 hG => ?_)
    have hw := hw σ12 eσ12
    refine lv_aload_n hx hb dX10_set_57 rfl (lv_at hl 3 rfl) ?_
    refine lv_iload_n hx hb dX10_set_58 rfl (lv_at hl 4 rfl) ?_
    refine g_calli hG (g_runV (rm := rm_X10_brokenBy) (As := [.int v1]) (rest := []) (n := 1) hE hG (m_X10_brokenBy l X hw _) gX10_set_X10_brokenBy rfl rfl rfl (by decide +kernel) ⟨Nat.le_of_ble_eq_true rfl, Nat.le_of_ble_eq_true rfl⟩ (kd_lt km0 (by decide)) (ce_10 km0) rfl rfl rfl hl.1 (Nat.le_of_ble_eq_true rfl) dX10_set_59 ⟨Nat.zero_le _, Nat.zero_le _⟩) (fun r13 σ14 H locs hw hG => ?_)
    refine lv_istore (lv' := [(8, .int r13), (7, .int x8), (6, .int x6), (5, .int x4), (0, .ref (X.2.1 0)), (1, .int v1), (2, .int v2), (3, .int v3), (4, .int v4)]) hx hb dX10_set_62 hl (by decide) rfl (fun ls hl => ?_)
    refine lv_iload hx hb dX10_set_64 (lv_at hl 0 rfl) ?_
    refine lv_if_lt (tgt := 93) hx hb dX10_set_66 (by decide) (fun hc15 => ?_) (fun hc15 => ?_)
    · have hw := hw.1 hc15
      refine lv_iconst (v := 1) hx hb dX10_set_93 (by decide) ?_
      exact g_iret hE hG hr hlk dX10_set_94 hw
    · have hw := hw.2 hc15
      refine lv_aload_n hx hb dX10_set_69 rfl (lv_at hl 4 rfl) ?_
      refine g_get (k := 0) hE hG (kd_lt km0 (by decide)) (ce_10 km0) rfl (by decide +kernel) (by decide) (by decide +kernel) rfl rfl dX10_set_70 ?_
      refine lv_iload hx hb dX10_set_73 (lv_at hl 3 rfl) ?_
      refine lv_iload hx hb dX10_set_75 (lv_at hl 2 rfl) ?_
      obtain ⟨hi16, hw⟩ := hw
      refine g_iast (n := 48) hE hG (kd_lt km1 (by decide)) (fun _ => ce_int km1 (by decide) (by decide)) hi16 dX10_set_77 (fun σ17 H locs eσ17 hG => ?_)
      have hw := hw σ17 eσ17
      refine lv_aload_n hx hb dX10_set_78 rfl (lv_at hl 4 rfl) ?_
      refine g_get (k := 1) hE hG (kd_lt km0 (by decide)) (ce_10 km0) rfl (by decide +kernel) (by decide) (by decide +kernel) rfl rfl dX10_set_79 ?_
      refine lv_iload hx hb dX10_set_82 (lv_at hl 3 rfl) ?_
      refine lv_iload hx hb dX10_set_84 (lv_at hl 1 rfl) ?_
      obtain ⟨hi18, hw⟩ := hw
      refine g_iast (n := 48) hE hG (kd_lt km2 (by decide)) (fun _ => ce_int km2 (by decide) (by decide)) hi18 dX10_set_86 (fun σ19 H locs eσ19 hG => ?_)
      have hw := hw σ19 eσ19
      refine lv_bipush (v := (-100)) hx hb dX10_set_87 (by decide) ?_
      refine lv_iload hx hb dX10_set_89 (lv_at hl 0 rfl) ?_
      refine lv_isub hx hb dX10_set_91 ?_
      exact g_iret hE hG hr hlk dX10_set_92 hw
  · have hw := hw.2 hc3
    refine lv_iconst (v := (-1)) hx hb dX10_set_12 (by decide) ?_
    exact g_iret hE hG hr hlk dX10_set_13 hw

set_option maxHeartbeats 4000000 in
set_option maxRecDepth 100000 in
theorem m_X10_would (l : Launch) (X : wX) {Q : Int32 → St → Prop} {v1 : Int32} {v2 : Int32} {v3 : Int32} {v4 : Int32} {σ : St} (hw : wp_X10_would Q v1 v2 v3 v4 σ) : mI X kmL l yX10_would wsX10_would rm_X10_would [.ref (X.2.1 0), .int v1, .int v2, .int v3, .int v4] σ Q := by
  refine mI.of (cc := cX10_would) (maxL := 9) (ret := (some .int)) (by decide +kernel) rfl (Nat.le_of_ble_eq_true rfl) ?_
  intro A p e s m args below meth c ls hE hr hlk hl hG
  have hx := hE.1.1
  have hb := hE.1.2.1
  unfold wp_X10_would at hw
  have hl : lv_has ls 9 [(0, .ref (X.2.1 0)), (1, .int v1), (2, .int v2), (3, .int v3), (4, .int v4)] := hl
  refine lv_aload_n hx hb dX10_would_0 rfl (lv_at hl 0 rfl) ?_
  refine lv_iload_n hx hb dX10_would_1 rfl (lv_at hl 1 rfl) ?_
  refine lv_iload_n hx hb dX10_would_2 rfl (lv_at hl 2 rfl) ?_
  refine lv_iload_n hx hb dX10_would_3 rfl (lv_at hl 3 rfl) ?_
  refine lv_iload hx hb dX10_would_4 (lv_at hl 4 rfl) ?_
  refine g_calli hG (g_runV (rm := rm_X10_maySet) (As := [.int v1, .int v2, .int v3, .int v4]) (rest := []) (n := 4) hE hG (m_X10_maySet l X hw _) gX10_would_X10_maySet rfl rfl rfl (by decide +kernel) ⟨Nat.le_of_ble_eq_true rfl, Nat.le_of_ble_eq_true rfl⟩ (kd_lt km0 (by decide)) (ce_10 km0) rfl rfl rfl hl.1 (Nat.le_of_ble_eq_true rfl) dX10_would_6 ⟨Nat.zero_le _, Nat.zero_le _⟩) (fun r1 σ2 H locs hw hG => ?_)
  refine lv_if_ne (tgt := 14) hx hb dX10_would_9 (by decide) (fun hc3 => ?_) (fun hc3 => ?_)
  · have hw := hw.1 hc3
    refine lv_bipush (v := (8)) hx hb dX10_would_14 (by decide) ?_
    refine lv_iload_n hx hb dX10_would_16 rfl (lv_at hl 1 rfl) ?_
    refine lv_imul hx hb dX10_would_17 ?_
    refine lv_iload_n hx hb dX10_would_18 rfl (lv_at hl 2 rfl) ?_
    refine lv_iadd hx hb dX10_would_19 ?_
    refine lv_topi (fun x4 ex4 => ?_)
    have hw := hw x4 ex4
    refine lv_istore (lv' := [(5, .int x4), (0, .ref (X.2.1 0)), (1, .int v1), (2, .int v2), (3, .int v3), (4, .int v4)]) hx hb dX10_would_20 hl (by decide) rfl (fun ls hl => ?_)
    refine lv_aload_n hx hb dX10_would_22 rfl (lv_at hl 1 rfl) ?_
    refine g_get (k := 0) hE hG (kd_lt km0 (by decide)) (ce_10 km0) rfl (by decide +kernel) (by decide) (by decide +kernel) rfl rfl dX10_would_23 ?_
    refine lv_iload hx hb dX10_would_26 (lv_at hl 0 rfl) ?_
    obtain ⟨hi5, hw⟩ := hw
    refine g_iald (n := 48) hE hG (kd_lt km1 (by decide)) (ce_int km1 (by decide) (by decide)) hi5 dX10_would_28 ?_
    refine lv_topi (fun x6 ex6 => ?_)
    have hw := hw x6 ex6
    refine lv_istore (lv' := [(6, .int x6), (5, .int x4), (0, .ref (X.2.1 0)), (1, .int v1), (2, .int v2), (3, .int v3), (4, .int v4)]) hx hb dX10_would_29 hl (by decide) rfl (fun ls hl => ?_)
    refine lv_aload_n hx hb dX10_would_31 rfl (lv_at hl 2 rfl) ?_
    refine g_get (k := 1) hE hG (kd_lt km0 (by decide)) (ce_10 km0) rfl (by decide +kernel) (by decide) (by decide +kernel) rfl rfl dX10_would_32 ?_
    refine lv_iload hx hb dX10_would_35 (lv_at hl 1 rfl) ?_
    obtain ⟨hi7, hw⟩ := hw
    refine g_iald (n := 48) hE hG (kd_lt km2 (by decide)) (ce_int km2 (by decide) (by decide)) hi7 dX10_would_37 ?_
    refine lv_topi (fun x8 ex8 => ?_)
    have hw := hw x8 ex8
    refine lv_istore (lv' := [(7, .int x8), (6, .int x6), (5, .int x4), (0, .ref (X.2.1 0)), (1, .int v1), (2, .int v2), (3, .int v3), (4, .int v4)]) hx hb dX10_would_38 hl (by decide) rfl (fun ls hl => ?_)
    refine lv_aload_n hx hb dX10_would_40 rfl (lv_at hl 3 rfl) ?_
    refine g_get (k := 0) hE hG (kd_lt km0 (by decide)) (ce_10 km0) rfl (by decide +kernel) (by decide) (by decide +kernel) rfl rfl dX10_would_41 ?_
    refine lv_iload hx hb dX10_would_44 (lv_at hl 2 rfl) ?_
    refine lv_iload_n hx hb dX10_would_46 rfl (lv_at hl 6 rfl) ?_
    obtain ⟨hi9, hw⟩ := hw
    refine g_iast (n := 48) hE hG (kd_lt km1 (by decide)) (fun _ => ce_int km1 (by decide) (by decide)) hi9 dX10_would_47 (fun σ10 H locs eσ10 hG => ?_)
    have hw := hw σ10 eσ10
    refine lv_aload_n hx hb dX10_would_48 rfl (lv_at hl 3 rfl) ?_
    refine g_get (k := 1) hE hG (kd_lt km0 (by decide)) (ce_10 km0) rfl (by decide +kernel) (by decide) (by decide +kernel) rfl rfl dX10_would_49 ?_
    refine lv_iload hx hb dX10_would_52 (lv_at hl 2 rfl) ?_
    refine lv_iload hx hb dX10_would_54 (lv_at hl 7 rfl) ?_
    obtain ⟨hi11, hw⟩ := hw
    refine g_iast (n := 48) hE hG (kd_lt km2 (by decide)) (fun _ => ce_int km2 (by decide) (by decide)) hi11 dX10_would_56 (fun σ12 H locs eσ12 hG => ?_)
    have hw := hw σ12 eσ12
    refine lv_aload_n hx hb dX10_would_57 rfl (lv_at hl 3 rfl) ?_
    refine lv_iload_n hx hb dX10_would_58 rfl (lv_at hl 4 rfl) ?_
    refine g_calli hG (g_runV (rm := rm_X10_brokenBy) (As := [.int v1]) (rest := []) (n := 1) hE hG (m_X10_brokenBy l X hw _) gX10_would_X10_brokenBy rfl rfl rfl (by decide +kernel) ⟨Nat.le_of_ble_eq_true rfl, Nat.le_of_ble_eq_true rfl⟩ (kd_lt km0 (by decide)) (ce_10 km0) rfl rfl rfl hl.1 (Nat.le_of_ble_eq_true rfl) dX10_would_59 ⟨Nat.zero_le _, Nat.zero_le _⟩) (fun r13 σ14 H locs hw hG => ?_)
    refine lv_istore (lv' := [(8, .int r13), (7, .int x8), (6, .int x6), (5, .int x4), (0, .ref (X.2.1 0)), (1, .int v1), (2, .int v2), (3, .int v3), (4, .int v4)]) hx hb dX10_would_62 hl (by decide) rfl (fun ls hl => ?_)
    refine lv_aload_n hx hb dX10_would_64 rfl (lv_at hl 4 rfl) ?_
    refine g_get (k := 0) hE hG (kd_lt km0 (by decide)) (ce_10 km0) rfl (by decide +kernel) (by decide) (by decide +kernel) rfl rfl dX10_would_65 ?_
    refine lv_iload hx hb dX10_would_68 (lv_at hl 3 rfl) ?_
    refine lv_iload hx hb dX10_would_70 (lv_at hl 2 rfl) ?_
    obtain ⟨hi15, hw⟩ := hw
    refine g_iast (n := 48) hE hG (kd_lt km1 (by decide)) (fun _ => ce_int km1 (by decide) (by decide)) hi15 dX10_would_72 (fun σ16 H locs eσ16 hG => ?_)
    have hw := hw σ16 eσ16
    refine lv_aload_n hx hb dX10_would_73 rfl (lv_at hl 4 rfl) ?_
    refine g_get (k := 1) hE hG (kd_lt km0 (by decide)) (ce_10 km0) rfl (by decide +kernel) (by decide) (by decide +kernel) rfl rfl dX10_would_74 ?_
    refine lv_iload hx hb dX10_would_77 (lv_at hl 3 rfl) ?_
    refine lv_iload hx hb dX10_would_79 (lv_at hl 1 rfl) ?_
    obtain ⟨hi17, hw⟩ := hw
    refine g_iast (n := 48) hE hG (kd_lt km2 (by decide)) (fun _ => ce_int km2 (by decide) (by decide)) hi17 dX10_would_81 (fun σ18 H locs eσ18 hG => ?_)
    have hw := hw σ18 eσ18
    refine lv_iconst (v := 1) hx hb dX10_would_82 (by decide) ?_
    refine lv_iload hx hb dX10_would_83 (lv_at hl 0 rfl) ?_
    refine lv_iadd hx hb dX10_would_85 ?_
    exact g_iret hE hG hr hlk dX10_would_86 hw
  · have hw := hw.2 hc3
    refine lv_iconst (v := (-1)) hx hb dX10_would_12 (by decide) ?_
    exact g_iret hE hG hr hlk dX10_would_13 hw

set_option maxHeartbeats 4000000 in
set_option maxRecDepth 100000 in
theorem b_X10_turn_24 {p : Program} {l : Launch} {e : Env} {s : State} {m : MethodId} {args : Array Value} {below : List Frame} {meth : Method} {c : Code} {X : wX} {A : Nat → Prop} (hE : eV p m c cX10_turn 4 s args wsX10_turn RX10 X) (hr : meth.sig.returnType = (some .int)) (hlk : meth.locks = false) {Q : Int32 → St → Prop} {v1 : Int32} {v2 : Int32} : ∀ (n : Nat) (σ : St) (v3 : Int32) (H : Heap) (locs : List Loc) (ls : Array Slot), wl_X10_turn_24 Q v1 v2 n σ v3 → gW X kmL A s.heap σ H locs → lv_has ls 4 [(0, .ref (X.2.1 0)), (1, .int v1), (2, .int v2), (3, .int v3)] → W p l e rm_X10_turn s m args below meth c H locs 0 0 (zI X kmL below args s A Q) (F0 m 24 ls []) := by
  have hx := hE.1.1
  have hb := hE.1.2.1
  intro n
  induction n with
  | zero =>
    intro σ v3 H locs ls hw
    exact False.elim hw
  | succ n ih =>
    intro σ v3 H locs ls hw hG hl
    have hw : wB_X10_turn_24 Q (wl_X10_turn_24 Q v1 v2 n) v1 v2 σ v3 := hw
    unfold wB_X10_turn_24 at hw
    refine lv_iload_n hx hb dX10_turn_24 rfl (lv_at hl 3 rfl) ?_
    refine lv_bipush (v := (8)) hx hb dX10_turn_25 (by decide) ?_
    refine lv_icmp_ge (tgt := 100) hx hb dX10_turn_27 (by decide) (fun hc7 => ?_) (fun hc7 => ?_)
    · have hw := hw.1 hc7
      refine lv_iconst (v := 1) hx hb dX10_turn_100 (by decide) ?_
      exact g_iret hE hG hr hlk dX10_turn_101 hw
    · have hw := hw.2 hc7
      refine lv_aload_n hx hb dX10_turn_30 rfl (lv_at hl 0 rfl) ?_
      refine g_get (k := 0) hE hG (kd_lt km0 (by decide)) (ce_10 km0) rfl (by decide +kernel) (by decide) (by decide +kernel) rfl rfl dX10_turn_31 ?_
      refine lv_bipush (v := (8)) hx hb dX10_turn_34 (by decide) ?_
      refine lv_iload_n hx hb dX10_turn_36 rfl (lv_at hl 1 rfl) ?_
      refine lv_imul hx hb dX10_turn_37 ?_
      refine lv_iload_n hx hb dX10_turn_38 rfl (lv_at hl 3 rfl) ?_
      refine lv_iadd hx hb dX10_turn_39 ?_
      refine lv_aload_n hx hb dX10_turn_40 rfl (lv_at hl 0 rfl) ?_
      refine g_get (k := 0) hE hG (kd_lt km0 (by decide)) (ce_10 km0) rfl (by decide +kernel) (by decide) (by decide +kernel) rfl rfl dX10_turn_41 ?_
      refine lv_bipush (v := (8)) hx hb dX10_turn_44 (by decide) ?_
      refine lv_iload_n hx hb dX10_turn_46 rfl (lv_at hl 1 rfl) ?_
      refine lv_imul hx hb dX10_turn_47 ?_
      refine lv_iload_n hx hb dX10_turn_48 rfl (lv_at hl 3 rfl) ?_
      refine lv_iadd hx hb dX10_turn_49 ?_
      obtain ⟨hi8, hw⟩ := hw
      refine g_iald (n := 48) hE hG (kd_lt km1 (by decide)) (ce_int km1 (by decide) (by decide)) hi8 dX10_turn_50 ?_
      refine lv_iload_n hx hb dX10_turn_51 rfl (lv_at hl 2 rfl) ?_
      refine lv_iadd hx hb dX10_turn_52 ?_
      refine lv_sipush (v := (360)) hx hb dX10_turn_53 (by decide) ?_
      refine lv_iadd hx hb dX10_turn_56 ?_
      refine lv_sipush (v := (360)) hx hb dX10_turn_57 (by decide) ?_
      refine lv_irem hx hb dX10_turn_60 (by decide) ?_
      obtain ⟨hi9, hw⟩ := hw
      refine g_iast (n := 48) hE hG (kd_lt km1 (by decide)) (fun _ => ce_int km1 (by decide) (by decide)) hi9 dX10_turn_61 (fun σ10 H locs eσ10 hG => ?_)
      have hw := hw σ10 eσ10
      refine lv_aload_n hx hb dX10_turn_62 rfl (lv_at hl 0 rfl) ?_
      refine g_get (k := 1) hE hG (kd_lt km0 (by decide)) (ce_10 km0) rfl (by decide +kernel) (by decide) (by decide +kernel) rfl rfl dX10_turn_63 ?_
      refine lv_bipush (v := (8)) hx hb dX10_turn_66 (by decide) ?_
      refine lv_iload_n hx hb dX10_turn_68 rfl (lv_at hl 1 rfl) ?_
      refine lv_imul hx hb dX10_turn_69 ?_
      refine lv_iload_n hx hb dX10_turn_70 rfl (lv_at hl 3 rfl) ?_
      refine lv_iadd hx hb dX10_turn_71 ?_
      refine lv_aload_n hx hb dX10_turn_72 rfl (lv_at hl 0 rfl) ?_
      refine g_get (k := 1) hE hG (kd_lt km0 (by decide)) (ce_10 km0) rfl (by decide +kernel) (by decide) (by decide +kernel) rfl rfl dX10_turn_73 ?_
      refine lv_bipush (v := (8)) hx hb dX10_turn_76 (by decide) ?_
      refine lv_iload_n hx hb dX10_turn_78 rfl (lv_at hl 1 rfl) ?_
      refine lv_imul hx hb dX10_turn_79 ?_
      refine lv_iload_n hx hb dX10_turn_80 rfl (lv_at hl 3 rfl) ?_
      refine lv_iadd hx hb dX10_turn_81 ?_
      obtain ⟨hi11, hw⟩ := hw
      refine g_iald (n := 48) hE hG (kd_lt km2 (by decide)) (ce_int km2 (by decide) (by decide)) hi11 dX10_turn_82 ?_
      refine lv_iload_n hx hb dX10_turn_83 rfl (lv_at hl 2 rfl) ?_
      refine lv_iadd hx hb dX10_turn_84 ?_
      refine lv_sipush (v := (360)) hx hb dX10_turn_85 (by decide) ?_
      refine lv_iadd hx hb dX10_turn_88 ?_
      refine lv_sipush (v := (360)) hx hb dX10_turn_89 (by decide) ?_
      refine lv_irem hx hb dX10_turn_92 (by decide) ?_
      obtain ⟨hi12, hw⟩ := hw
      refine g_iast (n := 48) hE hG (kd_lt km2 (by decide)) (fun _ => ce_int km2 (by decide) (by decide)) hi12 dX10_turn_93 (fun σ13 H locs eσ13 hG => ?_)
      have hw := hw σ13 eσ13
      obtain ⟨x14, ex14⟩ : ∃ z : Int32, z = v3 + (1 : Int32) := ⟨_, rfl⟩
      have hw := hw x14 ex14
      refine lv_iinc (v := x14) (lv' := [(3, .int x14), (0, .ref (X.2.1 0)), (1, .int v1), (2, .int v2)]) hx hb dX10_turn_94 hl (k := 3) rfl (by rw [ex14]; rfl) (by decide) rfl (fun ls hl => ?_)
      refine lv_goto (tgt := 24) hx hb dX10_turn_97 (by decide) ?_
      exact ih _ _ _ _ _ hw hG (lv_sub hl [1, 2, 3, 0] rfl)

set_option maxHeartbeats 4000000 in
set_option maxRecDepth 100000 in
theorem m_X10_turn (l : Launch) (X : wX) {Q : Int32 → St → Prop} {v1 : Int32} {v2 : Int32} {σ : St} (hw : wp_X10_turn Q v1 v2 σ) : mI X kmL l yX10_turn wsX10_turn rm_X10_turn [.ref (X.2.1 0), .int v1, .int v2] σ Q := by
  refine mI.of (cc := cX10_turn) (maxL := 4) (ret := (some .int)) (by decide +kernel) rfl (Nat.le_of_ble_eq_true rfl) ?_
  intro A p e s m args below meth c ls hE hr hlk hl hG
  have hx := hE.1.1
  have hb := hE.1.2.1
  unfold wp_X10_turn at hw
  have hl : lv_has ls 4 [(0, .ref (X.2.1 0)), (1, .int v1), (2, .int v2)] := hl
  refine lv_iload_n hx hb dX10_turn_0 rfl (lv_at hl 1 rfl) ?_
  refine g_calli hG (g_runS (rm := rm_X10_isSection) (As := [.int v1]) (rest := []) (n := 1) hE hG (m_X10_isSection l X hw _) gX10_turn_X10_isSection rfl rfl rfl (by decide +kernel) ⟨Nat.le_of_ble_eq_true rfl, Nat.le_of_ble_eq_true rfl⟩ rfl hl.1 (Nat.le_of_ble_eq_true rfl) dX10_turn_1 ⟨Nat.zero_le _, Nat.zero_le _⟩) (fun r1 σ2 H locs hw hG => ?_)
  refine lv_if_eq (tgt := 20) hx hb dX10_turn_4 (by decide) (fun hc3 => ?_) (fun hc3 => ?_)
  · have hw := hw.1 hc3
    refine lv_iconst (v := (-1)) hx hb dX10_turn_20 (by decide) ?_
    exact g_iret hE hG hr hlk dX10_turn_21 hw
  · have hw := hw.2 hc3
    refine lv_iload_n hx hb dX10_turn_7 rfl (lv_at hl 2 rfl) ?_
    refine lv_sipush (v := (-359)) hx hb dX10_turn_8 (by decide) ?_
    refine lv_sipush (v := (359)) hx hb dX10_turn_11 (by decide) ?_
    refine g_calli hG (g_runS (rm := rm_X10_in) (As := [.int v2, .int (-359 : Int32), .int (359 : Int32)]) (rest := []) (n := 3) hE hG (m_X10_in l X hw _) gX10_turn_X10_in rfl rfl rfl (by decide +kernel) ⟨Nat.le_of_ble_eq_true rfl, Nat.le_of_ble_eq_true rfl⟩ rfl hl.1 (Nat.le_of_ble_eq_true rfl) dX10_turn_14 ⟨Nat.zero_le _, Nat.zero_le _⟩) (fun r4 σ5 H locs hw hG => ?_)
    refine lv_if_ne (tgt := 22) hx hb dX10_turn_17 (by decide) (fun hc6 => ?_) (fun hc6 => ?_)
    · have hw := hw.1 hc6
      refine lv_iconst (v := 0) hx hb dX10_turn_22 (by decide) ?_
      refine lv_istore_n (lv' := [(3, .int (0 : Int32)), (0, .ref (X.2.1 0)), (1, .int v1), (2, .int v2)]) hx hb dX10_turn_23 rfl hl (by decide) rfl (fun ls hl => ?_)
      obtain ⟨n, hw⟩ := hw
      exact b_X10_turn_24 hE hr hlk n _ _ _ _ _ hw hG (lv_sub hl [1, 2, 3, 0] rfl)
    · have hw := hw.2 hc6
      refine lv_iconst (v := (-1)) hx hb dX10_turn_20 (by decide) ?_
      exact g_iret hE hG hr hlk dX10_turn_21 hw

set_option maxHeartbeats 4000000 in
set_option maxRecDepth 100000 in
theorem b_X10_copy_18 {p : Program} {l : Launch} {e : Env} {s : State} {m : MethodId} {args : Array Value} {below : List Frame} {meth : Method} {c : Code} {X : wX} {A : Nat → Prop} (hE : eV p m c cX10_copy 4 s args wsX10_copy RX10 X) (hr : meth.sig.returnType = (some .int)) (hlk : meth.locks = false) {Q : Int32 → St → Prop} {v1 : Int32} {v2 : Int32} : ∀ (n : Nat) (σ : St) (v3 : Int32) (H : Heap) (locs : List Loc) (ls : Array Slot), wl_X10_copy_18 Q v1 v2 n σ v3 → gW X kmL A s.heap σ H locs → lv_has ls 4 [(0, .ref (X.2.1 0)), (1, .int v1), (2, .int v2), (3, .int v3)] → W p l e rm_X10_copy s m args below meth c H locs 0 0 (zI X kmL below args s A Q) (F0 m 18 ls []) := by
  have hx := hE.1.1
  have hb := hE.1.2.1
  intro n
  induction n with
  | zero =>
    intro σ v3 H locs ls hw
    exact False.elim hw
  | succ n ih =>
    intro σ v3 H locs ls hw hG hl
    have hw : wB_X10_copy_18 Q (wl_X10_copy_18 Q v1 v2 n) v1 v2 σ v3 := hw
    unfold wB_X10_copy_18 at hw
    refine lv_iload_n hx hb dX10_copy_18 rfl (lv_at hl 3 rfl) ?_
    refine lv_bipush (v := (8)) hx hb dX10_copy_19 (by decide) ?_
    refine lv_icmp_ge (tgt := 74) hx hb dX10_copy_21 (by decide) (fun hc7 => ?_) (fun hc7 => ?_)
    · have hw := hw.1 hc7
      refine lv_iconst (v := 1) hx hb dX10_copy_74 (by decide) ?_
      exact g_iret hE hG hr hlk dX10_copy_75 hw
    · have hw := hw.2 hc7
      refine lv_aload_n hx hb dX10_copy_24 rfl (lv_at hl 0 rfl) ?_
      refine g_get (k := 0) hE hG (kd_lt km0 (by decide)) (ce_10 km0) rfl (by decide +kernel) (by decide) (by decide +kernel) rfl rfl dX10_copy_25 ?_
      refine lv_bipush (v := (8)) hx hb dX10_copy_28 (by decide) ?_
      refine lv_iload_n hx hb dX10_copy_30 rfl (lv_at hl 1 rfl) ?_
      refine lv_imul hx hb dX10_copy_31 ?_
      refine lv_iload_n hx hb dX10_copy_32 rfl (lv_at hl 3 rfl) ?_
      refine lv_iadd hx hb dX10_copy_33 ?_
      refine lv_aload_n hx hb dX10_copy_34 rfl (lv_at hl 0 rfl) ?_
      refine g_get (k := 0) hE hG (kd_lt km0 (by decide)) (ce_10 km0) rfl (by decide +kernel) (by decide) (by decide +kernel) rfl rfl dX10_copy_35 ?_
      refine lv_bipush (v := (8)) hx hb dX10_copy_38 (by decide) ?_
      refine lv_iload_n hx hb dX10_copy_40 rfl (lv_at hl 2 rfl) ?_
      refine lv_imul hx hb dX10_copy_41 ?_
      refine lv_iload_n hx hb dX10_copy_42 rfl (lv_at hl 3 rfl) ?_
      refine lv_iadd hx hb dX10_copy_43 ?_
      obtain ⟨hi8, hw⟩ := hw
      refine g_iald (n := 48) hE hG (kd_lt km1 (by decide)) (ce_int km1 (by decide) (by decide)) hi8 dX10_copy_44 ?_
      obtain ⟨hi9, hw⟩ := hw
      refine g_iast (n := 48) hE hG (kd_lt km1 (by decide)) (fun _ => ce_int km1 (by decide) (by decide)) hi9 dX10_copy_45 (fun σ10 H locs eσ10 hG => ?_)
      have hw := hw σ10 eσ10
      refine lv_aload_n hx hb dX10_copy_46 rfl (lv_at hl 0 rfl) ?_
      refine g_get (k := 1) hE hG (kd_lt km0 (by decide)) (ce_10 km0) rfl (by decide +kernel) (by decide) (by decide +kernel) rfl rfl dX10_copy_47 ?_
      refine lv_bipush (v := (8)) hx hb dX10_copy_50 (by decide) ?_
      refine lv_iload_n hx hb dX10_copy_52 rfl (lv_at hl 1 rfl) ?_
      refine lv_imul hx hb dX10_copy_53 ?_
      refine lv_iload_n hx hb dX10_copy_54 rfl (lv_at hl 3 rfl) ?_
      refine lv_iadd hx hb dX10_copy_55 ?_
      refine lv_aload_n hx hb dX10_copy_56 rfl (lv_at hl 0 rfl) ?_
      refine g_get (k := 1) hE hG (kd_lt km0 (by decide)) (ce_10 km0) rfl (by decide +kernel) (by decide) (by decide +kernel) rfl rfl dX10_copy_57 ?_
      refine lv_bipush (v := (8)) hx hb dX10_copy_60 (by decide) ?_
      refine lv_iload_n hx hb dX10_copy_62 rfl (lv_at hl 2 rfl) ?_
      refine lv_imul hx hb dX10_copy_63 ?_
      refine lv_iload_n hx hb dX10_copy_64 rfl (lv_at hl 3 rfl) ?_
      refine lv_iadd hx hb dX10_copy_65 ?_
      obtain ⟨hi11, hw⟩ := hw
      refine g_iald (n := 48) hE hG (kd_lt km2 (by decide)) (ce_int km2 (by decide) (by decide)) hi11 dX10_copy_66 ?_
      obtain ⟨hi12, hw⟩ := hw
      refine g_iast (n := 48) hE hG (kd_lt km2 (by decide)) (fun _ => ce_int km2 (by decide) (by decide)) hi12 dX10_copy_67 (fun σ13 H locs eσ13 hG => ?_)
      have hw := hw σ13 eσ13
      obtain ⟨x14, ex14⟩ : ∃ z : Int32, z = v3 + (1 : Int32) := ⟨_, rfl⟩
      have hw := hw x14 ex14
      refine lv_iinc (v := x14) (lv' := [(3, .int x14), (0, .ref (X.2.1 0)), (1, .int v1), (2, .int v2)]) hx hb dX10_copy_68 hl (k := 3) rfl (by rw [ex14]; rfl) (by decide) rfl (fun ls hl => ?_)
      refine lv_goto (tgt := 18) hx hb dX10_copy_71 (by decide) ?_
      exact ih _ _ _ _ _ hw hG (lv_sub hl [1, 2, 3, 0] rfl)

set_option maxHeartbeats 4000000 in
set_option maxRecDepth 100000 in
theorem m_X10_copy (l : Launch) (X : wX) {Q : Int32 → St → Prop} {v1 : Int32} {v2 : Int32} {σ : St} (hw : wp_X10_copy Q v1 v2 σ) : mI X kmL l yX10_copy wsX10_copy rm_X10_copy [.ref (X.2.1 0), .int v1, .int v2] σ Q := by
  refine mI.of (cc := cX10_copy) (maxL := 4) (ret := (some .int)) (by decide +kernel) rfl (Nat.le_of_ble_eq_true rfl) ?_
  intro A p e s m args below meth c ls hE hr hlk hl hG
  have hx := hE.1.1
  have hb := hE.1.2.1
  unfold wp_X10_copy at hw
  have hl : lv_has ls 4 [(0, .ref (X.2.1 0)), (1, .int v1), (2, .int v2)] := hl
  refine lv_iload_n hx hb dX10_copy_0 rfl (lv_at hl 1 rfl) ?_
  refine g_calli hG (g_runS (rm := rm_X10_isSection) (As := [.int v1]) (rest := []) (n := 1) hE hG (m_X10_isSection l X hw _) gX10_copy_X10_isSection rfl rfl rfl (by decide +kernel) ⟨Nat.le_of_ble_eq_true rfl, Nat.le_of_ble_eq_true rfl⟩ rfl hl.1 (Nat.le_of_ble_eq_true rfl) dX10_copy_1 ⟨Nat.zero_le _, Nat.zero_le _⟩) (fun r1 σ2 H locs hw hG => ?_)
  refine lv_if_eq (tgt := 14) hx hb dX10_copy_4 (by decide) (fun hc3 => ?_) (fun hc3 => ?_)
  · have hw := hw.1 hc3
    refine lv_iconst (v := (-1)) hx hb dX10_copy_14 (by decide) ?_
    exact g_iret hE hG hr hlk dX10_copy_15 hw
  · have hw := hw.2 hc3
    refine lv_iload_n hx hb dX10_copy_7 rfl (lv_at hl 2 rfl) ?_
    refine g_calli hG (g_runS (rm := rm_X10_isSection) (As := [.int v2]) (rest := []) (n := 1) hE hG (m_X10_isSection l X hw _) gX10_copy_X10_isSection rfl rfl rfl (by decide +kernel) ⟨Nat.le_of_ble_eq_true rfl, Nat.le_of_ble_eq_true rfl⟩ rfl hl.1 (Nat.le_of_ble_eq_true rfl) dX10_copy_8 ⟨Nat.zero_le _, Nat.zero_le _⟩) (fun r4 σ5 H locs hw hG => ?_)
    refine lv_if_ne (tgt := 16) hx hb dX10_copy_11 (by decide) (fun hc6 => ?_) (fun hc6 => ?_)
    · have hw := hw.1 hc6
      refine lv_iconst (v := 0) hx hb dX10_copy_16 (by decide) ?_
      refine lv_istore_n (lv' := [(3, .int (0 : Int32)), (0, .ref (X.2.1 0)), (1, .int v1), (2, .int v2)]) hx hb dX10_copy_17 rfl hl (by decide) rfl (fun ls hl => ?_)
      obtain ⟨n, hw⟩ := hw
      exact b_X10_copy_18 hE hr hlk n _ _ _ _ _ hw hG (lv_sub hl [1, 2, 3, 0] rfl)
    · have hw := hw.2 hc6
      refine lv_iconst (v := (-1)) hx hb dX10_copy_14 (by decide) ?_
      exact g_iret hE hG hr hlk dX10_copy_15 hw

set_option maxHeartbeats 4000000 in
set_option maxRecDepth 100000 in
theorem b_X10_law_112 {p : Program} {l : Launch} {e : Env} {s : State} {m : MethodId} {args : Array Value} {below : List Frame} {meth : Method} {c : Code} {X : wX} {A : Nat → Prop} (hE : eV p m c cX10_law 6 s args wsX10_law RX10 X) (hr : meth.sig.returnType = (some .int)) (hlk : meth.locks = false) {Q : Int32 → St → Prop} : ∀ (n : Nat) (σ : St) (v5 : Int32) (H : Heap) (locs : List Loc) (ls : Array Slot), wl_X10_law_112 Q n σ v5 → gW X kmL A s.heap σ H locs → lv_has ls 6 [(0, .ref (X.2.1 0)), (5, .int v5)] → W p l e rm_X10_law s m args below meth c H locs 0 0 (zI X kmL below args s A Q) (F0 m 112 ls []) := by
  have hx := hE.1.1
  have hb := hE.1.2.1
  intro n
  induction n with
  | zero =>
    intro σ v5 H locs ls hw
    exact False.elim hw
  | succ n ih =>
    intro σ v5 H locs ls hw hG hl
    have hw : wB_X10_law_112 Q (wl_X10_law_112 Q n) σ v5 := hw
    unfold wB_X10_law_112 at hw
    refine lv_iload hx hb dX10_law_112 (lv_at hl 1 rfl) ?_
    refine lv_bipush (v := (6)) hx hb dX10_law_114 (by decide) ?_
    refine lv_icmp_ge (tgt := 150) hx hb dX10_law_116 (by decide) (fun hc24 => ?_) (fun hc24 => ?_)
    · have hw := hw.1 hc24
      refine lv_aload_n hx hb dX10_law_150 rfl (lv_at hl 0 rfl) ?_
      refine lv_dup hx hb dX10_law_151 rfl ?_
      refine g_get (k := 2) hE hG (kd_lt km0 (by decide)) (ce_10 km0) rfl (by decide +kernel) (by decide) (by decide +kernel) rfl rfl dX10_law_152 ?_
      refine lv_iconst (v := 1) hx hb dX10_law_155 (by decide) ?_
      refine lv_iadd hx hb dX10_law_156 ?_
      refine g_put (k := 2) (x := ((σ 0 2) + (1 : Int32))) (ty := .int) hE hG (kd_lt km0 (by decide)) (ce_10 km0) (by rw [ce_10 km0]; rfl) rfl (by decide +kernel) tyX10 tyX10_ok nmX10 (by decide) (by decide +kernel) rfl rfl (by decide +kernel) rfl rfl (Nat.le_of_ble_eq_true rfl) dX10_law_157 (fun σ25 H locs eσ25 hG => ?_)
      have hw := hw σ25 eσ25
      refine lv_aload_n hx hb dX10_law_160 rfl (lv_at hl 0 rfl) ?_
      refine g_get (k := 2) hE hG (kd_lt km0 (by decide)) (ce_10 km0) rfl (by decide +kernel) (by decide) (by decide +kernel) rfl rfl dX10_law_161 ?_
      refine lv_iconst (v := 1) hx hb dX10_law_164 (by decide) ?_
      refine lv_isub hx hb dX10_law_165 ?_
      exact g_iret hE hG hr hlk dX10_law_166 hw
    · have hw := hw.2 hc24
      refine lv_aload_n hx hb dX10_law_119 rfl (lv_at hl 0 rfl) ?_
      refine lv_iload hx hb dX10_law_120 (lv_at hl 1 rfl) ?_
      refine lv_aload_n hx hb dX10_law_122 rfl (lv_at hl 0 rfl) ?_
      refine g_get (k := 2) hE hG (kd_lt km0 (by decide)) (ce_10 km0) rfl (by decide +kernel) (by decide) (by decide +kernel) rfl rfl dX10_law_123 ?_
      refine lv_aload_n hx hb dX10_law_126 rfl (lv_at hl 0 rfl) ?_
      refine g_get (k := 7) hE hG (kd_lt km0 (by decide)) (ce_10 km0) rfl (by decide +kernel) (by decide) (by decide +kernel) rfl rfl dX10_law_127 ?_
      refine g_calli hG (g_runV (rm := rm_X10_keeps) (As := [.int v5, .int (σ 0 2), .int (σ 0 7)]) (rest := []) (n := 3) hE hG (m_X10_keeps l X hw _) gX10_law_X10_keeps rfl rfl rfl (by decide +kernel) ⟨Nat.le_of_ble_eq_true rfl, Nat.le_of_ble_eq_true rfl⟩ (kd_lt km0 (by decide)) (ce_10 km0) rfl rfl rfl hl.1 (Nat.le_of_ble_eq_true rfl) dX10_law_130 ⟨Nat.zero_le _, Nat.zero_le _⟩) (fun r26 σ27 H locs hw hG => ?_)
      refine lv_if_ne (tgt := 144) hx hb dX10_law_133 (by decide) (fun hc28 => ?_) (fun hc28 => ?_)
      · have hw := hw.1 hc28
        obtain ⟨x29, ex29⟩ : ∃ z : Int32, z = v5 + (1 : Int32) := ⟨_, rfl⟩
        have hw := hw x29 ex29
        refine lv_iinc (v := x29) (lv' := [(5, .int x29), (0, .ref (X.2.1 0))]) hx hb dX10_law_144 hl (k := 1) rfl (by rw [ex29]; rfl) (by decide) rfl (fun ls hl => ?_)
        refine lv_goto (tgt := 112) hx hb dX10_law_147 (by decide) ?_
        exact ih _ _ _ _ _ hw hG (lv_sub hl [1, 0] rfl)
      · have hw := hw.2 hc28
        refine lv_bipush (v := (-100)) hx hb dX10_law_136 (by decide) ?_
        refine lv_aload_n hx hb dX10_law_138 rfl (lv_at hl 0 rfl) ?_
        refine g_get (k := 2) hE hG (kd_lt km0 (by decide)) (ce_10 km0) rfl (by decide +kernel) (by decide) (by decide +kernel) rfl rfl dX10_law_139 ?_
        refine lv_isub hx hb dX10_law_142 ?_
        exact g_iret hE hG hr hlk dX10_law_143 hw

set_option maxHeartbeats 4000000 in
set_option maxRecDepth 100000 in
theorem b_X10_law_48 {p : Program} {l : Launch} {e : Env} {s : State} {m : MethodId} {args : Array Value} {below : List Frame} {meth : Method} {c : Code} {X : wX} {A : Nat → Prop} {H : Heap} {locs : List Loc} {ls : Array Slot} {σ : St} (hE : eV p m c cX10_law 6 s args wsX10_law RX10 X) (hr : meth.sig.returnType = (some .int)) (hlk : meth.locks = false) {Q : Int32 → St → Prop} {v1 : Int32} {v2 : Int32} {v3 : Int32} {v4 : Int32} {z0 : Int32} {z1 : Int32} {z2 : Int32} (hw : wb_X10_law_48 Q v1 v2 v3 v4 z0 z1 z2 σ) (hG : gW X kmL A s.heap σ H locs) (hl : lv_has ls 6 [(0, .ref (X.2.1 0)), (1, .int v1), (2, .int v2), (3, .int v3), (4, .int v4)]) : W p l e rm_X10_law s m args below meth c H locs 0 0 (zI X kmL below args s A Q) (F0 m 48 ls [.int z0, .int z1, .int z2]) := by
  have hx := hE.1.1
  have hb := hE.1.2.1
  unfold wb_X10_law_48 at hw
  refine g_calli hG (g_runS (rm := rm_X10_in) (As := [.int z2, .int z1, .int z0]) (rest := []) (n := 3) hE hG (m_X10_in l X hw _) gX10_law_X10_in rfl rfl rfl (by decide +kernel) ⟨Nat.le_of_ble_eq_true rfl, Nat.le_of_ble_eq_true rfl⟩ rfl hl.1 (Nat.le_of_ble_eq_true rfl) dX10_law_48 ⟨Nat.zero_le _, Nat.zero_le _⟩) (fun r12 σ13 H locs hw hG => ?_)
  refine lv_if_ne (tgt := 56) hx hb dX10_law_51 (by decide) (fun hc14 => ?_) (fun hc14 => ?_)
  · have hw := hw.1 hc14
    refine lv_aload_n hx hb dX10_law_56 rfl (lv_at hl 0 rfl) ?_
    refine g_get (k := 2) hE hG (kd_lt km0 (by decide)) (ce_10 km0) rfl (by decide +kernel) (by decide) (by decide +kernel) rfl rfl dX10_law_57 ?_
    refine lv_bipush (v := (16)) hx hb dX10_law_60 (by decide) ?_
    refine lv_icmp_ne (tgt := 68) hx hb dX10_law_62 (by decide) (fun hc15 => ?_) (fun hc15 => ?_)
    · have hw := hw.1 hc15
      refine lv_aload_n hx hb dX10_law_68 rfl (lv_at hl 0 rfl) ?_
      refine g_get (k := 3) hE hG (kd_lt km0 (by decide)) (ce_10 km0) rfl (by decide +kernel) (by decide) (by decide +kernel) rfl rfl dX10_law_69 ?_
      refine lv_aload_n hx hb dX10_law_72 rfl (lv_at hl 0 rfl) ?_
      refine g_get (k := 2) hE hG (kd_lt km0 (by decide)) (ce_10 km0) rfl (by decide +kernel) (by decide) (by decide +kernel) rfl rfl dX10_law_73 ?_
      refine lv_iload_n hx hb dX10_law_76 rfl (lv_at hl 1 rfl) ?_
      obtain ⟨hi16, hw⟩ := hw
      refine g_iast (n := 17) hE hG (kd_lt km3 (by decide)) (fun _ => ce_int km3 (by decide) (by decide)) hi16 dX10_law_77 (fun σ17 H locs eσ17 hG => ?_)
      have hw := hw σ17 eσ17
      refine lv_aload_n hx hb dX10_law_78 rfl (lv_at hl 0 rfl) ?_
      refine g_get (k := 4) hE hG (kd_lt km0 (by decide)) (ce_10 km0) rfl (by decide +kernel) (by decide) (by decide +kernel) rfl rfl dX10_law_79 ?_
      refine lv_aload_n hx hb dX10_law_82 rfl (lv_at hl 0 rfl) ?_
      refine g_get (k := 2) hE hG (kd_lt km0 (by decide)) (ce_10 km0) rfl (by decide +kernel) (by decide) (by decide +kernel) rfl rfl dX10_law_83 ?_
      refine lv_iload_n hx hb dX10_law_86 rfl (lv_at hl 2 rfl) ?_
      obtain ⟨hi18, hw⟩ := hw
      refine g_iast (n := 17) hE hG (kd_lt km4 (by decide)) (fun _ => ce_int km4 (by decide) (by decide)) hi18 dX10_law_87 (fun σ19 H locs eσ19 hG => ?_)
      have hw := hw σ19 eσ19
      refine lv_aload_n hx hb dX10_law_88 rfl (lv_at hl 0 rfl) ?_
      refine g_get (k := 5) hE hG (kd_lt km0 (by decide)) (ce_10 km0) rfl (by decide +kernel) (by decide) (by decide +kernel) rfl rfl dX10_law_89 ?_
      refine lv_aload_n hx hb dX10_law_92 rfl (lv_at hl 0 rfl) ?_
      refine g_get (k := 2) hE hG (kd_lt km0 (by decide)) (ce_10 km0) rfl (by decide +kernel) (by decide) (by decide +kernel) rfl rfl dX10_law_93 ?_
      refine lv_iload_n hx hb dX10_law_96 rfl (lv_at hl 3 rfl) ?_
      obtain ⟨hi20, hw⟩ := hw
      refine g_iast (n := 17) hE hG (kd_lt km5 (by decide)) (fun _ => ce_int km5 (by decide) (by decide)) hi20 dX10_law_97 (fun σ21 H locs eσ21 hG => ?_)
      have hw := hw σ21 eσ21
      refine lv_aload_n hx hb dX10_law_98 rfl (lv_at hl 0 rfl) ?_
      refine g_get (k := 6) hE hG (kd_lt km0 (by decide)) (ce_10 km0) rfl (by decide +kernel) (by decide) (by decide +kernel) rfl rfl dX10_law_99 ?_
      refine lv_aload_n hx hb dX10_law_102 rfl (lv_at hl 0 rfl) ?_
      refine g_get (k := 2) hE hG (kd_lt km0 (by decide)) (ce_10 km0) rfl (by decide +kernel) (by decide) (by decide +kernel) rfl rfl dX10_law_103 ?_
      refine lv_iload hx hb dX10_law_106 (lv_at hl 4 rfl) ?_
      obtain ⟨hi22, hw⟩ := hw
      refine g_iast (n := 17) hE hG (kd_lt km6 (by decide)) (fun _ => ce_int km6 (by decide) (by decide)) hi22 dX10_law_108 (fun σ23 H locs eσ23 hG => ?_)
      have hw := hw σ23 eσ23
      refine lv_iconst (v := 0) hx hb dX10_law_109 (by decide) ?_
      refine lv_istore (lv' := [(5, .int (0 : Int32)), (0, .ref (X.2.1 0)), (1, .int v1), (2, .int v2), (3, .int v3), (4, .int v4)]) hx hb dX10_law_110 hl (by decide) rfl (fun ls hl => ?_)
      obtain ⟨n, hw⟩ := hw
      exact b_X10_law_112 hE hr hlk n _ _ _ _ _ hw hG (lv_sub hl [1, 0] rfl)
    · have hw := hw.2 hc15
      refine lv_bipush (v := (-2)) hx hb dX10_law_65 (by decide) ?_
      exact g_iret hE hG hr hlk dX10_law_67 hw
  · have hw := hw.2 hc14
    refine lv_iconst (v := (-1)) hx hb dX10_law_54 (by decide) ?_
    exact g_iret hE hG hr hlk dX10_law_55 hw

set_option maxHeartbeats 4000000 in
set_option maxRecDepth 100000 in
theorem b_X10_law_33 {p : Program} {l : Launch} {e : Env} {s : State} {m : MethodId} {args : Array Value} {below : List Frame} {meth : Method} {c : Code} {X : wX} {A : Nat → Prop} {H : Heap} {locs : List Loc} {ls : Array Slot} {σ : St} (hE : eV p m c cX10_law 6 s args wsX10_law RX10 X) (hr : meth.sig.returnType = (some .int)) (hlk : meth.locks = false) {Q : Int32 → St → Prop} {v1 : Int32} {v2 : Int32} {v3 : Int32} {v4 : Int32} (hw : wb_X10_law_33 Q v1 v2 v3 v4 σ) (hG : gW X kmL A s.heap σ H locs) (hl : lv_has ls 6 [(0, .ref (X.2.1 0)), (1, .int v1), (2, .int v2), (3, .int v3), (4, .int v4)]) : W p l e rm_X10_law s m args below meth c H locs 0 0 (zI X kmL below args s A Q) (F0 m 33 ls []) := by
  have hx := hE.1.1
  have hb := hE.1.2.1
  unfold wb_X10_law_33 at hw
  refine lv_iload hx hb dX10_law_33 (lv_at hl 4 rfl) ?_
  refine lv_iconst (v := 0) hx hb dX10_law_35 (by decide) ?_
  refine lv_iload_n hx hb dX10_law_36 rfl (lv_at hl 1 rfl) ?_
  refine lv_if_ne (tgt := 46) hx hb dX10_law_37 (by decide) (fun hc11 => ?_) (fun hc11 => ?_)
  · have hw := hw.1 hc11
    refine lv_ldc (v := (60000)) hx hb hE.1.2.2.2.1 (hE.1.2.2.2.2 _ (by decide +kernel)) dX10_law_46 ?_
    exact b_X10_law_48 hE hr hlk hw hG (lv_sub hl [0, 1, 2, 3, 4] rfl)
  · have hw := hw.2 hc11
    refine lv_sipush (v := (359)) hx hb dX10_law_40 (by decide) ?_
    refine lv_goto (tgt := 48) hx hb dX10_law_43 (by decide) ?_
    exact b_X10_law_48 hE hr hlk hw hG (lv_sub hl [0, 1, 2, 3, 4] rfl)

set_option maxHeartbeats 4000000 in
set_option maxRecDepth 100000 in
theorem m_X10_law (l : Launch) (X : wX) {Q : Int32 → St → Prop} {v1 : Int32} {v2 : Int32} {v3 : Int32} {v4 : Int32} {σ : St} (hw : wp_X10_law Q v1 v2 v3 v4 σ) : mI X kmL l yX10_law wsX10_law rm_X10_law [.ref (X.2.1 0), .int v1, .int v2, .int v3, .int v4] σ Q := by
  refine mI.of (cc := cX10_law) (maxL := 6) (ret := (some .int)) (by decide +kernel) rfl (Nat.le_of_ble_eq_true rfl) ?_
  intro A p e s m args below meth c ls hE hr hlk hl hG
  have hx := hE.1.1
  have hb := hE.1.2.1
  unfold wp_X10_law at hw
  have hl : lv_has ls 6 [(0, .ref (X.2.1 0)), (1, .int v1), (2, .int v2), (3, .int v3), (4, .int v4)] := hl
  refine lv_iload_n hx hb dX10_law_0 rfl (lv_at hl 1 rfl) ?_
  refine lv_iconst (v := 0) hx hb dX10_law_1 (by decide) ?_
  refine lv_iconst (v := 3) hx hb dX10_law_2 (by decide) ?_
  refine g_calli hG (g_runS (rm := rm_X10_in) (As := [.int v1, .int (0 : Int32), .int (3 : Int32)]) (rest := []) (n := 3) hE hG (m_X10_in l X hw _) gX10_law_X10_in rfl rfl rfl (by decide +kernel) ⟨Nat.le_of_ble_eq_true rfl, Nat.le_of_ble_eq_true rfl⟩ rfl hl.1 (Nat.le_of_ble_eq_true rfl) dX10_law_3 ⟨Nat.zero_le _, Nat.zero_le _⟩) (fun r1 σ2 H locs hw hG => ?_)
  refine lv_if_eq (tgt := 54) hx hb dX10_law_6 (by decide) (fun hc3 => ?_) (fun hc3 => ?_)
  · have hw := hw.1 hc3
    refine lv_iconst (v := (-1)) hx hb dX10_law_54 (by decide) ?_
    exact g_iret hE hG hr hlk dX10_law_55 hw
  · have hw := hw.2 hc3
    refine lv_iload_n hx hb dX10_law_9 rfl (lv_at hl 2 rfl) ?_
    refine g_calli hG (g_runS (rm := rm_X10_isAct) (As := [.int v2]) (rest := []) (n := 1) hE hG (m_X10_isAct l X hw _) gX10_law_X10_isAct rfl rfl rfl (by decide +kernel) ⟨Nat.le_of_ble_eq_true rfl, Nat.le_of_ble_eq_true rfl⟩ rfl hl.1 (Nat.le_of_ble_eq_true rfl) dX10_law_10 ⟨Nat.zero_le _, Nat.zero_le _⟩) (fun r4 σ5 H locs hw hG => ?_)
    refine lv_if_eq (tgt := 54) hx hb dX10_law_13 (by decide) (fun hc6 => ?_) (fun hc6 => ?_)
    · have hw := hw.1 hc6
      refine lv_iconst (v := (-1)) hx hb dX10_law_54 (by decide) ?_
      exact g_iret hE hG hr hlk dX10_law_55 hw
    · have hw := hw.2 hc6
      refine lv_iload_n hx hb dX10_law_16 rfl (lv_at hl 3 rfl) ?_
      refine g_calli hG (g_runS (rm := rm_X10_isAct) (As := [.int v3]) (rest := []) (n := 1) hE hG (m_X10_isAct l X hw _) gX10_law_X10_isAct rfl rfl rfl (by decide +kernel) ⟨Nat.le_of_ble_eq_true rfl, Nat.le_of_ble_eq_true rfl⟩ rfl hl.1 (Nat.le_of_ble_eq_true rfl) dX10_law_17 ⟨Nat.zero_le _, Nat.zero_le _⟩) (fun r7 σ8 H locs hw hG => ?_)
      refine lv_if_eq (tgt := 54) hx hb dX10_law_20 (by decide) (fun hc9 => ?_) (fun hc9 => ?_)
      · have hw := hw.1 hc9
        refine lv_iconst (v := (-1)) hx hb dX10_law_54 (by decide) ?_
        exact g_iret hE hG hr hlk dX10_law_55 hw
      · have hw := hw.2 hc9
        refine lv_iload_n hx hb dX10_law_23 rfl (lv_at hl 2 rfl) ?_
        refine lv_iload_n hx hb dX10_law_24 rfl (lv_at hl 3 rfl) ?_
        refine lv_icmp_ne (tgt := 33) hx hb dX10_law_25 (by decide) (fun hc10 => ?_) (fun hc10 => ?_)
        · have hw := hw.1 hc10
          exact b_X10_law_33 hE hr hlk hw hG (lv_sub hl [0, 1, 2, 3, 4] rfl)
        · have hw := hw.2 hc10
          refine lv_iload_n hx hb dX10_law_28 rfl (lv_at hl 1 rfl) ?_
          refine lv_iconst (v := 2) hx hb dX10_law_29 (by decide) ?_
          refine lv_icmp_ne (tgt := 54) hx hb dX10_law_30 (by decide) (fun hc30 => ?_) (fun hc30 => ?_)
          · have hw := hw.1 hc30
            refine lv_iconst (v := (-1)) hx hb dX10_law_54 (by decide) ?_
            exact g_iret hE hG hr hlk dX10_law_55 hw
          · have hw := hw.2 hc30
            exact b_X10_law_33 hE hr hlk hw hG (lv_sub hl [0, 1, 2, 3, 4] rfl)

