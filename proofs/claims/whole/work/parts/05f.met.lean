/-! contracts, by program -/
set_option maxHeartbeats 4000000 in
set_option maxRecDepth 100000 in
theorem b_X9_cut_29 {p : Program} {l : Launch} {e : Env} {s : State} {m : MethodId} {args : Array Value} {below : List Frame} {meth : Method} {c : Code} {X : wX} {A : Nat → Prop} (hE : eV p m c cX9_cut 4 s args wsX9_cut RX9 X) (hr : meth.sig.returnType = (some .int)) (hlk : meth.locks = false) {Q : Int32 → St → Prop} {v1 : Int32} : ∀ (n : Nat) (σ : St) (v2 : Int32) (v3 : Int32) (H : Heap) (locs : List Loc) (ls : Array Slot), wl_X9_cut_29 Q v1 n σ v2 v3 → gW X kcL A s.heap σ H locs → lv_has ls 4 [(0, .ref (X.2.1 0)), (1, .int v1), (2, .int v2), (3, .int v3)] → W p l e rm_X9_cut s m args below meth c H locs 0 0 (zI X kcL below args s A Q) (F0 m 29 ls []) := by
  have hx := hE.1.1
  have hb := hE.1.2.1
  intro n
  induction n with
  | zero =>
    intro σ v2 v3 H locs ls hw
    exact False.elim hw
  | succ n ih =>
    intro σ v2 v3 H locs ls hw hG hl
    have hw : wB_X9_cut_29 Q (wl_X9_cut_29 Q v1 n) v1 σ v2 v3 := hw
    unfold wB_X9_cut_29 at hw
    refine lv_iload_n hx hb dX9_cut_29 rfl (lv_at hl 3 rfl) ?_
    refine lv_iload_n hx hb dX9_cut_30 rfl (lv_at hl 1 rfl) ?_
    refine lv_icmp_ge (tgt := 63) hx hb dX9_cut_31 (by decide) (fun hc5 => ?_) (fun hc5 => ?_)
    · have hw := hw.1 hc5
      refine lv_iload_n hx hb dX9_cut_63 rfl (lv_at hl 2 rfl) ?_
      exact g_iret hE hG hr hlk dX9_cut_64 hw
    · have hw := hw.2 hc5
      refine lv_aload_n hx hb dX9_cut_34 rfl (lv_at hl 0 rfl) ?_
      refine g_get (k := 4) hE hG (kd_lt kc0 (by decide)) (ce_9 kc0) rfl (by decide +kernel) (by decide) (by decide +kernel) rfl rfl dX9_cut_35 ?_
      refine g_get (k := 2) hE hG (kd_lt kc64 (by decide)) (ce_0 kc64) rfl (by decide +kernel) (by decide) (by decide +kernel) rfl rfl dX9_cut_38 ?_
      refine lv_bipush (v := (12)) hx hb dX9_cut_41 (by decide) ?_
      refine lv_icmp_ne (tgt := 53) hx hb dX9_cut_43 (by decide) (fun hc6 => ?_) (fun hc6 => ?_)
      · have hw := hw.1 hc6
        refine lv_aload_n hx hb dX9_cut_53 rfl (lv_at hl 0 rfl) ?_
        refine g_callv hG (g_runV (rm := rm_X9_makeBottle) (As := []) (rest := []) (n := 0) hE hG (m_X9_makeBottle l X hw _) gX9_cut_X9_makeBottle rfl rfl rfl (by decide +kernel) ⟨Nat.le_of_ble_eq_true rfl, Nat.le_of_ble_eq_true rfl⟩ (kd_lt kc0 (by decide)) (ce_9 kc0) rfl rfl rfl hl.1 (Nat.le_of_ble_eq_true rfl) dX9_cut_54 ⟨Nat.zero_le _, Nat.zero_le _⟩) (fun σ8 H locs hw hG => ?_)
        obtain ⟨x9, ex9⟩ : ∃ z : Int32, z = v3 + (1 : Int32) := ⟨_, rfl⟩
        have hw := hw x9 ex9
        refine lv_iinc (v := x9) (lv' := [(3, .int x9), (0, .ref (X.2.1 0)), (1, .int v1), (2, .int v2)]) hx hb dX9_cut_57 hl (k := 3) rfl (by rw [ex9]; rfl) (by decide) rfl (fun ls hl => ?_)
        refine lv_goto (tgt := 29) hx hb dX9_cut_60 (by decide) ?_
        exact ih _ _ _ _ _ _ hw hG (lv_sub hl [1, 2, 3, 0] rfl)
      · have hw := hw.2 hc6
        refine lv_aload_n hx hb dX9_cut_46 rfl (lv_at hl 0 rfl) ?_
        refine g_callv hG (g_runV (rm := rm_X9_takeOffEldest) (As := []) (rest := []) (n := 0) hE hG (m_X9_takeOffEldest l X hw _) gX9_cut_X9_takeOffEldest rfl rfl rfl (by decide +kernel) ⟨Nat.le_of_ble_eq_true rfl, Nat.le_of_ble_eq_true rfl⟩ (kd_lt kc0 (by decide)) (ce_9 kc0) rfl rfl rfl hl.1 (Nat.le_of_ble_eq_true rfl) dX9_cut_47 ⟨Nat.zero_le _, Nat.zero_le _⟩) (fun σ11 H locs hw hG => ?_)
        obtain ⟨x12, ex12⟩ : ∃ z : Int32, z = v2 + (1 : Int32) := ⟨_, rfl⟩
        have hw := hw x12 ex12
        refine lv_iinc (v := x12) (lv' := [(2, .int x12), (0, .ref (X.2.1 0)), (1, .int v1), (3, .int v3)]) hx hb dX9_cut_50 hl (k := 2) rfl (by rw [ex12]; rfl) (by decide) rfl (fun ls hl => ?_)
        refine lv_aload_n hx hb dX9_cut_53 rfl (lv_at hl 1 rfl) ?_
        refine g_callv hG (g_runV (rm := rm_X9_makeBottle) (As := []) (rest := []) (n := 0) hE hG (m_X9_makeBottle l X hw _) gX9_cut_X9_makeBottle rfl rfl rfl (by decide +kernel) ⟨Nat.le_of_ble_eq_true rfl, Nat.le_of_ble_eq_true rfl⟩ (kd_lt kc0 (by decide)) (ce_9 kc0) rfl rfl rfl hl.1 (Nat.le_of_ble_eq_true rfl) dX9_cut_54 ⟨Nat.zero_le _, Nat.zero_le _⟩) (fun σ14 H locs hw hG => ?_)
        obtain ⟨x15, ex15⟩ : ∃ z : Int32, z = v3 + (1 : Int32) := ⟨_, rfl⟩
        have hw := hw x15 ex15
        refine lv_iinc (v := x15) (lv' := [(3, .int x15), (2, .int x12), (0, .ref (X.2.1 0)), (1, .int v1)]) hx hb dX9_cut_57 hl (k := 3) rfl (by rw [ex15]; rfl) (by decide) rfl (fun ls hl => ?_)
        refine lv_goto (tgt := 29) hx hb dX9_cut_60 (by decide) ?_
        exact ih _ _ _ _ _ _ hw hG (lv_sub hl [2, 3, 1, 0] rfl)

set_option maxHeartbeats 4000000 in
set_option maxRecDepth 100000 in
theorem m_X9_cut (l : Launch) (X : wX) {Q : Int32 → St → Prop} {v1 : Int32} {σ : St} (hw : wp_X9_cut Q v1 σ) : mI X kcL l yX9_cut wsX9_cut rm_X9_cut [.ref (X.2.1 0), .int v1] σ Q := by
  refine mI.of (cc := cX9_cut) (maxL := 4) (ret := (some .int)) (by decide +kernel) rfl (Nat.le_of_ble_eq_true rfl) ?_
  intro A p e s m args below meth c ls hE hr hlk hl hG
  have hx := hE.1.1
  have hb := hE.1.2.1
  unfold wp_X9_cut at hw
  have hl : lv_has ls 4 [(0, .ref (X.2.1 0)), (1, .int v1)] := hl
  refine lv_iload_n hx hb dX9_cut_0 rfl (lv_at hl 1 rfl) ?_
  refine lv_iconst (v := 1) hx hb dX9_cut_1 (by decide) ?_
  refine lv_bipush (v := (100)) hx hb dX9_cut_2 (by decide) ?_
  refine g_calli hG (g_runS (rm := rm_X9_isBetween) (As := [.int v1, .int (1 : Int32), .int (100 : Int32)]) (rest := []) (n := 3) hE hG (m_X9_isBetween l X hw _) gX9_cut_X9_isBetween rfl rfl rfl (by decide +kernel) ⟨Nat.le_of_ble_eq_true rfl, Nat.le_of_ble_eq_true rfl⟩ rfl hl.1 (Nat.le_of_ble_eq_true rfl) dX9_cut_4 ⟨Nat.zero_le _, Nat.zero_le _⟩) (fun r1 σ2 H locs hw hG => ?_)
  refine lv_if_ne (tgt := 12) hx hb dX9_cut_7 (by decide) (fun hc3 => ?_) (fun hc3 => ?_)
  · have hw := hw.1 hc3
    refine lv_aload_n hx hb dX9_cut_12 rfl (lv_at hl 0 rfl) ?_
    refine g_get (k := 2) hE hG (kd_lt kc0 (by decide)) (ce_9 kc0) rfl (by decide +kernel) (by decide) (by decide +kernel) rfl rfl dX9_cut_13 ?_
    refine g_get (k := 2) hE hG (kd_lt kc55 (by decide)) (ce_6 kc55) rfl (by decide +kernel) (by decide) (by decide +kernel) rfl rfl dX9_cut_16 ?_
    refine lv_if_ne (tgt := 25) hx hb dX9_cut_19 (by decide) (fun hc4 => ?_) (fun hc4 => ?_)
    · have hw := hw.1 hc4
      refine lv_iconst (v := 0) hx hb dX9_cut_25 (by decide) ?_
      refine lv_istore_n (lv' := [(2, .int (0 : Int32)), (0, .ref (X.2.1 0)), (1, .int v1)]) hx hb dX9_cut_26 rfl hl (by decide) rfl (fun ls hl => ?_)
      refine lv_iconst (v := 0) hx hb dX9_cut_27 (by decide) ?_
      refine lv_istore_n (lv' := [(3, .int (0 : Int32)), (2, .int (0 : Int32)), (0, .ref (X.2.1 0)), (1, .int v1)]) hx hb dX9_cut_28 rfl hl (by decide) rfl (fun ls hl => ?_)
      obtain ⟨n, hw⟩ := hw
      exact b_X9_cut_29 hE hr hlk n _ _ _ _ _ _ hw hG (lv_sub hl [2, 3, 1, 0] rfl)
    · have hw := hw.2 hc4
      refine lv_bipush (v := (-4)) hx hb dX9_cut_22 (by decide) ?_
      exact g_iret hE hG hr hlk dX9_cut_24 hw
  · have hw := hw.2 hc3
    refine lv_iconst (v := (-1)) hx hb dX9_cut_10 (by decide) ?_
    exact g_iret hE hG hr hlk dX9_cut_11 hw

set_option maxHeartbeats 4000000 in
set_option maxRecDepth 100000 in
theorem b_X9_drain_10 {p : Program} {l : Launch} {e : Env} {s : State} {m : MethodId} {args : Array Value} {below : List Frame} {meth : Method} {c : Code} {X : wX} {A : Nat → Prop} (hE : eV p m c cX9_drain 3 s args wsX9_drain RX9 X) (hr : meth.sig.returnType = (some .int)) (hlk : meth.locks = false) {Q : Int32 → St → Prop} {v1 : Int32} : ∀ (n : Nat) (σ : St) (v2 : Int32) (H : Heap) (locs : List Loc) (ls : Array Slot), wl_X9_drain_10 Q v1 n σ v2 → gW X kcL A s.heap σ H locs → lv_has ls 3 [(0, .ref (X.2.1 0)), (1, .int v1), (2, .int v2)] → W p l e rm_X9_drain s m args below meth c H locs 0 0 (zI X kcL below args s A Q) (F0 m 10 ls []) := by
  have hx := hE.1.1
  have hb := hE.1.2.1
  intro n
  induction n with
  | zero =>
    intro σ v2 H locs ls hw
    exact False.elim hw
  | succ n ih =>
    intro σ v2 H locs ls hw hG hl
    have hw : wB_X9_drain_10 Q (wl_X9_drain_10 Q v1 n) v1 σ v2 := hw
    unfold wB_X9_drain_10 at hw
    refine lv_iload_n hx hb dX9_drain_10 rfl (lv_at hl 2 rfl) ?_
    refine lv_iload_n hx hb dX9_drain_11 rfl (lv_at hl 1 rfl) ?_
    refine lv_icmp_ge (tgt := 25) hx hb dX9_drain_12 (by decide) (fun hc2 => ?_) (fun hc2 => ?_)
    · have hw := hw.1 hc2
      refine lv_iload_n hx hb dX9_drain_25 rfl (lv_at hl 1 rfl) ?_
      exact g_iret hE hG hr hlk dX9_drain_26 hw
    · have hw := hw.2 hc2
      refine lv_aload_n hx hb dX9_drain_15 rfl (lv_at hl 0 rfl) ?_
      refine g_callv hG (g_runV (rm := rm_X9_takeOffEldest) (As := []) (rest := []) (n := 0) hE hG (m_X9_takeOffEldest l X hw _) gX9_drain_X9_takeOffEldest rfl rfl rfl (by decide +kernel) ⟨Nat.le_of_ble_eq_true rfl, Nat.le_of_ble_eq_true rfl⟩ (kd_lt kc0 (by decide)) (ce_9 kc0) rfl rfl rfl hl.1 (Nat.le_of_ble_eq_true rfl) dX9_drain_16 ⟨Nat.zero_le _, Nat.zero_le _⟩) (fun σ4 H locs hw hG => ?_)
      obtain ⟨x5, ex5⟩ : ∃ z : Int32, z = v2 + (1 : Int32) := ⟨_, rfl⟩
      have hw := hw x5 ex5
      refine lv_iinc (v := x5) (lv' := [(2, .int x5), (0, .ref (X.2.1 0)), (1, .int v1)]) hx hb dX9_drain_19 hl (k := 2) rfl (by rw [ex5]; rfl) (by decide) rfl (fun ls hl => ?_)
      refine lv_goto (tgt := 10) hx hb dX9_drain_22 (by decide) ?_
      exact ih _ _ _ _ _ hw hG (lv_sub hl [1, 2, 0] rfl)

set_option maxHeartbeats 4000000 in
set_option maxRecDepth 100000 in
theorem m_X9_drain (l : Launch) (X : wX) {Q : Int32 → St → Prop} {σ : St} (hw : wp_X9_drain Q σ) : mI X kcL l yX9_drain wsX9_drain rm_X9_drain [.ref (X.2.1 0)] σ Q := by
  refine mI.of (cc := cX9_drain) (maxL := 3) (ret := (some .int)) (by decide +kernel) rfl (Nat.le_of_ble_eq_true rfl) ?_
  intro A p e s m args below meth c ls hE hr hlk hl hG
  have hx := hE.1.1
  have hb := hE.1.2.1
  unfold wp_X9_drain at hw
  have hl : lv_has ls 3 [(0, .ref (X.2.1 0))] := hl
  refine lv_aload_n hx hb dX9_drain_0 rfl (lv_at hl 0 rfl) ?_
  refine g_get (k := 4) hE hG (kd_lt kc0 (by decide)) (ce_9 kc0) rfl (by decide +kernel) (by decide) (by decide +kernel) rfl rfl dX9_drain_1 ?_
  refine g_get (k := 2) hE hG (kd_lt kc64 (by decide)) (ce_0 kc64) rfl (by decide +kernel) (by decide) (by decide +kernel) rfl rfl dX9_drain_4 ?_
  refine lv_topi (fun x1 ex1 => ?_)
  have hw := hw x1 ex1
  refine lv_istore_n (lv' := [(1, .int x1), (0, .ref (X.2.1 0))]) hx hb dX9_drain_7 rfl hl (by decide) rfl (fun ls hl => ?_)
  refine lv_iconst (v := 0) hx hb dX9_drain_8 (by decide) ?_
  refine lv_istore_n (lv' := [(2, .int (0 : Int32)), (1, .int x1), (0, .ref (X.2.1 0))]) hx hb dX9_drain_9 rfl hl (by decide) rfl (fun ls hl => ?_)
  obtain ⟨n, hw⟩ := hw
  exact b_X9_drain_10 hE hr hlk n _ _ _ _ _ hw hG (lv_sub hl [2, 1, 0] rfl)

set_option maxHeartbeats 4000000 in
set_option maxRecDepth 100000 in
theorem m_X9_bottle (l : Launch) (X : wX) {Q : Int32 → St → Prop} {v1 : Int32} {v2 : Int32} {σ : St} (hw : wp_X9_bottle Q v1 v2 σ) : mI X kcL l yX9_bottle wsX9_bottle rm_X9_bottle [.ref (X.2.1 0), .int v1, .int v2] σ Q := by
  refine mI.of (cc := cX9_bottle) (maxL := 4) (ret := (some .int)) (by decide +kernel) rfl (Nat.le_of_ble_eq_true rfl) ?_
  intro A p e s m args below meth c ls hE hr hlk hl hG
  have hx := hE.1.1
  have hb := hE.1.2.1
  unfold wp_X9_bottle at hw
  have hl : lv_has ls 4 [(0, .ref (X.2.1 0)), (1, .int v1), (2, .int v2)] := hl
  refine lv_iload_n hx hb dX9_bottle_0 rfl (lv_at hl 1 rfl) ?_
  refine lv_if_lt (tgt := 15) hx hb dX9_bottle_1 (by decide) (fun hc1 => ?_) (fun hc1 => ?_)
  · have hw := hw.1 hc1
    refine lv_iconst (v := (-1)) hx hb dX9_bottle_15 (by decide) ?_
    exact g_iret hE hG hr hlk dX9_bottle_16 hw
  · have hw := hw.2 hc1
    refine lv_iload_n hx hb dX9_bottle_4 rfl (lv_at hl 1 rfl) ?_
    refine lv_aload_n hx hb dX9_bottle_5 rfl (lv_at hl 0 rfl) ?_
    refine g_get (k := 4) hE hG (kd_lt kc0 (by decide)) (ce_9 kc0) rfl (by decide +kernel) (by decide) (by decide +kernel) rfl rfl dX9_bottle_6 ?_
    refine g_get (k := 2) hE hG (kd_lt kc64 (by decide)) (ce_0 kc64) rfl (by decide +kernel) (by decide) (by decide +kernel) rfl rfl dX9_bottle_9 ?_
    refine lv_icmp_lt (tgt := 17) hx hb dX9_bottle_12 (by decide) (fun hc2 => ?_) (fun hc2 => ?_)
    · have hw := hw.1 hc2
      refine lv_aload_n hx hb dX9_bottle_17 rfl (lv_at hl 0 rfl) ?_
      refine g_get (k := 4) hE hG (kd_lt kc0 (by decide)) (ce_9 kc0) rfl (by decide +kernel) (by decide) (by decide +kernel) rfl rfl dX9_bottle_18 ?_
      refine lv_iload_n hx hb dX9_bottle_21 rfl (lv_at hl 1 rfl) ?_
      refine g_callrV (rm := rm_X0_fromEldest) (As := [.int v1]) (rest := []) (n := 1) hE hG (m_X0_fromEldest l X hw) gX9_bottle_X0_fromEldest rfl rfl rfl (by decide +kernel) ⟨Nat.le_of_ble_eq_true rfl, Nat.le_of_ble_eq_true rfl⟩ (kd_lt kc64 (by decide)) (ce_0 kc64) rfl rfl rfl hl.1 (Nat.le_of_ble_eq_true rfl) dX9_bottle_22 ⟨Nat.zero_le _, Nat.zero_le _⟩ (fun r3 σ4 H locs hw hG => ?_)
      obtain ⟨hk5, hw⟩ := hw
      refine lv_astore_n (lv' := [(3, .ref (X.2.1 r3)), (0, .ref (X.2.1 0)), (1, .int v1), (2, .int v2)]) hx hb dX9_bottle_25 rfl hl (by decide) rfl (fun ls hl => ?_)
      refine lv_iload_n hx hb dX9_bottle_26 rfl (lv_at hl 3 rfl) ?_
      by_cases hs6 : v2 = (0 : Int32)
      · refine lv_tableIn (tgt := 64) hx hb dX9_bottle_27 (by rw [hs6]; decide) (by rw [hs6]; decide) (by rw [hs6]; rfl) (by decide) ?_
        have hw := hw.1 hs6
        refine lv_aload_n hx hb dX9_bottle_64 rfl (lv_at hl 0 rfl) ?_
        refine g_get (k := 0) hE hG (kd_lt hk5 (by decide)) (ce_1 hk5) rfl (by decide +kernel) (by decide) (by decide +kernel) rfl rfl dX9_bottle_65 ?_
        exact g_iret hE hG hr hlk dX9_bottle_68 hw
      · skip
        by_cases hs7 : v2 = (1 : Int32)
        · refine lv_tableIn (tgt := 69) hx hb dX9_bottle_27 (by rw [hs7]; decide) (by rw [hs7]; decide) (by rw [hs7]; rfl) (by decide) ?_
          have hw := hw.2.1 hs7
          refine lv_aload_n hx hb dX9_bottle_69 rfl (lv_at hl 0 rfl) ?_
          refine g_get (k := 1) hE hG (kd_lt hk5 (by decide)) (ce_1 hk5) rfl (by decide +kernel) (by decide) (by decide +kernel) rfl rfl dX9_bottle_70 ?_
          exact g_iret hE hG hr hlk dX9_bottle_73 hw
        · skip
          by_cases hs8 : v2 = (2 : Int32)
          · refine lv_tableIn (tgt := 74) hx hb dX9_bottle_27 (by rw [hs8]; decide) (by rw [hs8]; decide) (by rw [hs8]; rfl) (by decide) ?_
            have hw := hw.2.2.1 hs8
            refine lv_aload_n hx hb dX9_bottle_74 rfl (lv_at hl 0 rfl) ?_
            refine g_get (k := 2) hE hG (kd_lt hk5 (by decide)) (ce_1 hk5) rfl (by decide +kernel) (by decide) (by decide +kernel) rfl rfl dX9_bottle_75 ?_
            exact g_iret hE hG hr hlk dX9_bottle_78 hw
          · skip
            by_cases hs9 : v2 = (3 : Int32)
            · refine lv_tableIn (tgt := 79) hx hb dX9_bottle_27 (by rw [hs9]; decide) (by rw [hs9]; decide) (by rw [hs9]; rfl) (by decide) ?_
              have hw := hw.2.2.2.1 hs9
              refine lv_aload_n hx hb dX9_bottle_79 rfl (lv_at hl 0 rfl) ?_
              refine g_get (k := 3) hE hG (kd_lt hk5 (by decide)) (ce_1 hk5) rfl (by decide +kernel) (by decide) (by decide +kernel) rfl rfl dX9_bottle_80 ?_
              exact g_iret hE hG hr hlk dX9_bottle_83 hw
            · skip
              by_cases hs10 : v2 = (4 : Int32)
              · refine lv_tableIn (tgt := 84) hx hb dX9_bottle_27 (by rw [hs10]; decide) (by rw [hs10]; decide) (by rw [hs10]; rfl) (by decide) ?_
                have hw := hw.2.2.2.2.1 hs10
                refine lv_aload_n hx hb dX9_bottle_84 rfl (lv_at hl 0 rfl) ?_
                refine g_get (k := 5) hE hG (kd_lt hk5 (by decide)) (ce_1 hk5) rfl (by decide +kernel) (by decide) (by decide +kernel) rfl rfl dX9_bottle_85 ?_
                exact g_iret hE hG hr hlk dX9_bottle_88 hw
              · skip
                by_cases hs13 : v2 = (5 : Int32)
                · refine lv_tableIn (tgt := 89) hx hb dX9_bottle_27 (by rw [hs13]; decide) (by rw [hs13]; decide) (by rw [hs13]; rfl) (by decide) ?_
                  have hw := hw.2.2.2.2.2.1 hs13
                  refine lv_aload_n hx hb dX9_bottle_89 rfl (lv_at hl 1 rfl) ?_
                  refine lv_aload_n hx hb dX9_bottle_90 rfl (lv_at hl 0 rfl) ?_
                  refine g_calli hG (g_runV (rm := rm_X9_verdict) (As := [.ref (X.2.1 r3)]) (rest := []) (n := 1) hE hG (m_X9_verdict l X hk5 hw _) gX9_bottle_X9_verdict rfl rfl rfl (by decide +kernel) ⟨Nat.le_of_ble_eq_true rfl, Nat.le_of_ble_eq_true rfl⟩ (kd_lt kc0 (by decide)) (ce_9 kc0) rfl rfl rfl hl.1 (Nat.le_of_ble_eq_true rfl) dX9_bottle_91 ⟨Nat.zero_le _, Nat.zero_le _⟩) (fun r11 σ12 H locs hw hG => ?_)
                  exact g_iret hE hG hr hlk dX9_bottle_94 hw
                · skip
                  have hw := hw.2.2.2.2.2.2 hs6 hs7 hs8 hs9 hs10 hs13
                  have q0 := lv_neT hs6 (a := 0) (by decide)
                  have q1 := lv_neT hs7 (a := 1) (by decide)
                  have q2 := lv_neT hs8 (a := 2) (by decide)
                  have q3 := lv_neT hs9 (a := 3) (by decide)
                  have q4 := lv_neT hs10 (a := 4) (by decide)
                  have q5 := lv_neT hs13 (a := 5) (by decide)
                  refine lv_tableOut (tgt := 95) hx hb dX9_bottle_27 (by omega) (by decide) ?_
                  refine lv_iconst (v := (-1)) hx hb dX9_bottle_95 (by decide) ?_
                  exact g_iret hE hG hr hlk dX9_bottle_96 hw
    · have hw := hw.2 hc2
      refine lv_iconst (v := (-1)) hx hb dX9_bottle_15 (by decide) ?_
      exact g_iret hE hG hr hlk dX9_bottle_16 hw

set_option maxHeartbeats 4000000 in
set_option maxRecDepth 100000 in
theorem m_X9_many (l : Launch) (X : wX) {Q : Int32 → St → Prop} {v1 : Int32} {σ : St} (hw : wp_X9_many Q v1 σ) : mI X kcL l yX9_many wsX9_many rm_X9_many [.ref (X.2.1 0), .int v1] σ Q := by
  refine mI.of (cc := cX9_many) (maxL := 2) (ret := (some .int)) (by decide +kernel) rfl (Nat.le_of_ble_eq_true rfl) ?_
  intro A p e s m args below meth c ls hE hr hlk hl hG
  have hx := hE.1.1
  have hb := hE.1.2.1
  unfold wp_X9_many at hw
  have hl : lv_has ls 2 [(0, .ref (X.2.1 0)), (1, .int v1)] := hl
  refine lv_iload_n hx hb dX9_many_0 rfl (lv_at hl 1 rfl) ?_
  refine lv_iconst (v := 2) hx hb dX9_many_1 (by decide) ?_
  refine lv_bipush (v := (8)) hx hb dX9_many_2 (by decide) ?_
  refine g_calli hG (g_runS (rm := rm_X9_isBetween) (As := [.int v1, .int (2 : Int32), .int (8 : Int32)]) (rest := []) (n := 3) hE hG (m_X9_isBetween l X hw _) gX9_many_X9_isBetween rfl rfl rfl (by decide +kernel) ⟨Nat.le_of_ble_eq_true rfl, Nat.le_of_ble_eq_true rfl⟩ rfl hl.1 (Nat.le_of_ble_eq_true rfl) dX9_many_4 ⟨Nat.zero_le _, Nat.zero_le _⟩) (fun r1 σ2 H locs hw hG => ?_)
  refine lv_if_eq (tgt := 19) hx hb dX9_many_7 (by decide) (fun hc3 => ?_) (fun hc3 => ?_)
  · have hw := hw.1 hc3
    refine lv_iload_n hx hb dX9_many_19 rfl (lv_at hl 1 rfl) ?_
    by_cases hs4 : v1 = (0 : Int32)
    · refine lv_tableIn (tgt := 100) hx hb dX9_many_20 (by rw [hs4]; decide) (by rw [hs4]; decide) (by rw [hs4]; rfl) (by decide) ?_
      have hw := hw.1 hs4
      refine lv_aload_n hx hb dX9_many_100 rfl (lv_at hl 0 rfl) ?_
      refine g_get (k := 14) hE hG (kd_lt kc0 (by decide)) (ce_9 kc0) rfl (by decide +kernel) (by decide) (by decide +kernel) rfl rfl dX9_many_101 ?_
      exact g_iret hE hG hr hlk dX9_many_104 hw
    · skip
      by_cases hs5 : v1 = (1 : Int32)
      · refine lv_tableIn (tgt := 105) hx hb dX9_many_20 (by rw [hs5]; decide) (by rw [hs5]; decide) (by rw [hs5]; rfl) (by decide) ?_
        have hw := hw.2.1 hs5
        refine lv_aload_n hx hb dX9_many_105 rfl (lv_at hl 0 rfl) ?_
        refine g_get (k := 4) hE hG (kd_lt kc0 (by decide)) (ce_9 kc0) rfl (by decide +kernel) (by decide) (by decide +kernel) rfl rfl dX9_many_106 ?_
        refine g_get (k := 2) hE hG (kd_lt kc64 (by decide)) (ce_0 kc64) rfl (by decide +kernel) (by decide) (by decide +kernel) rfl rfl dX9_many_109 ?_
        exact g_iret hE hG hr hlk dX9_many_112 hw
      · skip
        by_cases hs6 : v1 = (9 : Int32)
        · refine lv_tableIn (tgt := 113) hx hb dX9_many_20 (by rw [hs6]; decide) (by rw [hs6]; decide) (by rw [hs6]; rfl) (by decide) ?_
          have hw := hw.2.2.1 hs6
          refine lv_aload_n hx hb dX9_many_113 rfl (lv_at hl 0 rfl) ?_
          refine g_get (k := 2) hE hG (kd_lt kc0 (by decide)) (ce_9 kc0) rfl (by decide +kernel) (by decide) (by decide +kernel) rfl rfl dX9_many_114 ?_
          refine g_get (k := 2) hE hG (kd_lt kc55 (by decide)) (ce_6 kc55) rfl (by decide +kernel) (by decide) (by decide +kernel) rfl rfl dX9_many_117 ?_
          exact g_iret hE hG hr hlk dX9_many_120 hw
        · skip
          by_cases hs7 : v1 = (10 : Int32)
          · refine lv_tableIn (tgt := 121) hx hb dX9_many_20 (by rw [hs7]; decide) (by rw [hs7]; decide) (by rw [hs7]; rfl) (by decide) ?_
            have hw := hw.2.2.2.1 hs7
            refine lv_aload_n hx hb dX9_many_121 rfl (lv_at hl 0 rfl) ?_
            refine g_get (k := 11) hE hG (kd_lt kc0 (by decide)) (ce_9 kc0) rfl (by decide +kernel) (by decide) (by decide +kernel) rfl rfl dX9_many_122 ?_
            exact g_iret hE hG hr hlk dX9_many_125 hw
          · skip
            by_cases hs10 : v1 = (11 : Int32)
            · refine lv_tableIn (tgt := 126) hx hb dX9_many_20 (by rw [hs10]; decide) (by rw [hs10]; decide) (by rw [hs10]; rfl) (by decide) ?_
              have hw := hw.2.2.2.2.1 hs10
              refine lv_aload_n hx hb dX9_many_126 rfl (lv_at hl 0 rfl) ?_
              refine g_get (k := 2) hE hG (kd_lt kc0 (by decide)) (ce_9 kc0) rfl (by decide +kernel) (by decide) (by decide +kernel) rfl rfl dX9_many_127 ?_
              refine g_calli hG (g_runV (rm := rm_X6_next) (As := []) (rest := []) (n := 0) hE hG (m_X6_next l X hw _) gX9_many_X6_next rfl rfl rfl (by decide +kernel) ⟨Nat.le_of_ble_eq_true rfl, Nat.le_of_ble_eq_true rfl⟩ (kd_lt kc55 (by decide)) (ce_6 kc55) rfl rfl rfl hl.1 (Nat.le_of_ble_eq_true rfl) dX9_many_130 ⟨Nat.zero_le _, Nat.zero_le _⟩) (fun r8 σ9 H locs hw hG => ?_)
              exact g_iret hE hG hr hlk dX9_many_133 hw
            · skip
              by_cases hs11 : v1 = (12 : Int32)
              · refine lv_tableIn (tgt := 134) hx hb dX9_many_20 (by rw [hs11]; decide) (by rw [hs11]; decide) (by rw [hs11]; rfl) (by decide) ?_
                have hw := hw.2.2.2.2.2.1 hs11
                refine lv_aload_n hx hb dX9_many_134 rfl (lv_at hl 0 rfl) ?_
                refine g_get (k := 10) hE hG (kd_lt kc0 (by decide)) (ce_9 kc0) rfl (by decide +kernel) (by decide) (by decide +kernel) rfl rfl dX9_many_135 ?_
                exact g_iret hE hG hr hlk dX9_many_138 hw
              · skip
                by_cases hs12 : v1 = (13 : Int32)
                · refine lv_tableIn (tgt := 139) hx hb dX9_many_20 (by rw [hs12]; decide) (by rw [hs12]; decide) (by rw [hs12]; rfl) (by decide) ?_
                  have hw := hw.2.2.2.2.2.2.1 hs12
                  refine lv_aload_n hx hb dX9_many_139 rfl (lv_at hl 0 rfl) ?_
                  refine g_get (k := 0) hE hG (kd_lt kc0 (by decide)) (ce_9 kc0) rfl (by decide +kernel) (by decide) (by decide +kernel) rfl rfl dX9_many_140 ?_
                  refine g_get (k := 3) hE hG (kd_lt kc1 (by decide)) (ce_3 kc1) rfl (by decide +kernel) (by decide) (by decide +kernel) rfl rfl dX9_many_143 ?_
                  exact g_iret hE hG hr hlk dX9_many_146 hw
                · skip
                  by_cases hs13 : v1 = (14 : Int32)
                  · refine lv_tableIn (tgt := 147) hx hb dX9_many_20 (by rw [hs13]; decide) (by rw [hs13]; decide) (by rw [hs13]; rfl) (by decide) ?_
                    have hw := hw.2.2.2.2.2.2.2.1 hs13
                    refine lv_aload_n hx hb dX9_many_147 rfl (lv_at hl 0 rfl) ?_
                    refine g_get (k := 0) hE hG (kd_lt kc0 (by decide)) (ce_9 kc0) rfl (by decide +kernel) (by decide) (by decide +kernel) rfl rfl dX9_many_148 ?_
                    refine g_get (k := 4) hE hG (kd_lt kc1 (by decide)) (ce_3 kc1) rfl (by decide +kernel) (by decide) (by decide +kernel) rfl rfl dX9_many_151 ?_
                    exact g_iret hE hG hr hlk dX9_many_154 hw
                  · skip
                    by_cases hs14 : v1 = (15 : Int32)
                    · refine lv_tableIn (tgt := 155) hx hb dX9_many_20 (by rw [hs14]; decide) (by rw [hs14]; decide) (by rw [hs14]; rfl) (by decide) ?_
                      have hw := hw.2.2.2.2.2.2.2.2.1 hs14
                      refine lv_aload_n hx hb dX9_many_155 rfl (lv_at hl 0 rfl) ?_
                      refine g_get (k := 9) hE hG (kd_lt kc0 (by decide)) (ce_9 kc0) rfl (by decide +kernel) (by decide) (by decide +kernel) rfl rfl dX9_many_156 ?_
                      exact g_iret hE hG hr hlk dX9_many_159 hw
                    · skip
                      have hw := hw.2.2.2.2.2.2.2.2.2 hs4 hs5 hs6 hs7 hs10 hs11 hs12 hs13 hs14
                      by_cases hs15 : v1 = (2 : Int32)
                      · refine lv_tableIn (tgt := 160) hx hb dX9_many_20 (by rw [hs15]; decide) (by rw [hs15]; decide) (by rw [hs15]; rfl) (by decide) ?_
                        refine lv_iconst (v := (-1)) hx hb dX9_many_160 (by decide) ?_
                        exact g_iret hE hG hr hlk dX9_many_161 hw
                      · skip
                        by_cases hs16 : v1 = (3 : Int32)
                        · refine lv_tableIn (tgt := 160) hx hb dX9_many_20 (by rw [hs16]; decide) (by rw [hs16]; decide) (by rw [hs16]; rfl) (by decide) ?_
                          refine lv_iconst (v := (-1)) hx hb dX9_many_160 (by decide) ?_
                          exact g_iret hE hG hr hlk dX9_many_161 hw
                        · skip
                          by_cases hs17 : v1 = (4 : Int32)
                          · refine lv_tableIn (tgt := 160) hx hb dX9_many_20 (by rw [hs17]; decide) (by rw [hs17]; decide) (by rw [hs17]; rfl) (by decide) ?_
                            refine lv_iconst (v := (-1)) hx hb dX9_many_160 (by decide) ?_
                            exact g_iret hE hG hr hlk dX9_many_161 hw
                          · skip
                            by_cases hs18 : v1 = (5 : Int32)
                            · refine lv_tableIn (tgt := 160) hx hb dX9_many_20 (by rw [hs18]; decide) (by rw [hs18]; decide) (by rw [hs18]; rfl) (by decide) ?_
                              refine lv_iconst (v := (-1)) hx hb dX9_many_160 (by decide) ?_
                              exact g_iret hE hG hr hlk dX9_many_161 hw
                            · skip
                              by_cases hs19 : v1 = (6 : Int32)
                              · refine lv_tableIn (tgt := 160) hx hb dX9_many_20 (by rw [hs19]; decide) (by rw [hs19]; decide) (by rw [hs19]; rfl) (by decide) ?_
                                refine lv_iconst (v := (-1)) hx hb dX9_many_160 (by decide) ?_
                                exact g_iret hE hG hr hlk dX9_many_161 hw
                              · skip
                                by_cases hs20 : v1 = (7 : Int32)
                                · refine lv_tableIn (tgt := 160) hx hb dX9_many_20 (by rw [hs20]; decide) (by rw [hs20]; decide) (by rw [hs20]; rfl) (by decide) ?_
                                  refine lv_iconst (v := (-1)) hx hb dX9_many_160 (by decide) ?_
                                  exact g_iret hE hG hr hlk dX9_many_161 hw
                                · skip
                                  by_cases hs21 : v1 = (8 : Int32)
                                  · refine lv_tableIn (tgt := 160) hx hb dX9_many_20 (by rw [hs21]; decide) (by rw [hs21]; decide) (by rw [hs21]; rfl) (by decide) ?_
                                    refine lv_iconst (v := (-1)) hx hb dX9_many_160 (by decide) ?_
                                    exact g_iret hE hG hr hlk dX9_many_161 hw
                                  · skip
                                    have q0 := lv_neT hs4 (a := 0) (by decide)
                                    have q1 := lv_neT hs5 (a := 1) (by decide)
                                    have q2 := lv_neT hs6 (a := 9) (by decide)
                                    have q3 := lv_neT hs7 (a := 10) (by decide)
                                    have q4 := lv_neT hs10 (a := 11) (by decide)
                                    have q5 := lv_neT hs11 (a := 12) (by decide)
                                    have q6 := lv_neT hs12 (a := 13) (by decide)
                                    have q7 := lv_neT hs13 (a := 14) (by decide)
                                    have q8 := lv_neT hs14 (a := 15) (by decide)
                                    have q9 := lv_neT hs15 (a := 2) (by decide)
                                    have q10 := lv_neT hs16 (a := 3) (by decide)
                                    have q11 := lv_neT hs17 (a := 4) (by decide)
                                    have q12 := lv_neT hs18 (a := 5) (by decide)
                                    have q13 := lv_neT hs19 (a := 6) (by decide)
                                    have q14 := lv_neT hs20 (a := 7) (by decide)
                                    have q15 := lv_neT hs21 (a := 8) (by decide)
                                    refine lv_tableOut (tgt := 160) hx hb dX9_many_20 (by omega) (by decide) ?_
                                    refine lv_iconst (v := (-1)) hx hb dX9_many_160 (by decide) ?_
                                    exact g_iret hE hG hr hlk dX9_many_161 hw
  · have hw := hw.2 hc3
    refine lv_aload_n hx hb dX9_many_10 rfl (lv_at hl 0 rfl) ?_
    refine g_get (k := 8) hE hG (kd_lt kc0 (by decide)) (ce_9 kc0) rfl (by decide +kernel) (by decide) (by decide +kernel) rfl rfl dX9_many_11 ?_
    refine lv_iload_n hx hb dX9_many_14 rfl (lv_at hl 1 rfl) ?_
    refine lv_iconst (v := 2) hx hb dX9_many_15 (by decide) ?_
    refine lv_isub hx hb dX9_many_16 ?_
    obtain ⟨hi22, hw⟩ := hw
    refine g_iald (n := 7) hE hG (kd_lt kc81 (by decide)) (ce_int kc81 (by decide) (by decide)) hi22 dX9_many_17 ?_
    exact g_iret hE hG hr hlk dX9_many_18 hw

set_option maxHeartbeats 4000000 in
set_option maxRecDepth 100000 in
theorem m_X10_in (l : Launch) (X : wX) {Q : Int32 → St → Prop} {v0 : Int32} {v1 : Int32} {v2 : Int32} {σ : St} (hw : wp_X10_in Q v0 v1 v2 σ) : mI X kmL l yX10_in wsX10_in rm_X10_in [.int v0, .int v1, .int v2] σ Q := by
  refine mI.of (cc := cX10_in) (maxL := 3) (ret := (some .boolean)) (by decide +kernel) rfl (Nat.le_of_ble_eq_true rfl) ?_
  intro A p e s m args below meth c ls hE hr hlk hl hG
  have hx := hE.1.1
  have hb := hE.1.2.1
  unfold wp_X10_in at hw
  have hl : lv_has ls 3 [(0, .int v0), (1, .int v1), (2, .int v2)] := hl
  refine lv_iload_n hx hb dX10_in_0 rfl (lv_at hl 0 rfl) ?_
  refine lv_iload_n hx hb dX10_in_1 rfl (lv_at hl 1 rfl) ?_
  refine lv_icmp_lt (tgt := 14) hx hb dX10_in_2 (by decide) (fun hc1 => ?_) (fun hc1 => ?_)
  · have hw := hw.1 hc1
    refine lv_iconst (v := 0) hx hb dX10_in_14 (by decide) ?_
    exact g_zret hE hG hr hlk dX10_in_15 (by decide) hw
  · have hw := hw.2 hc1
    refine lv_iload_n hx hb dX10_in_5 rfl (lv_at hl 0 rfl) ?_
    refine lv_iload_n hx hb dX10_in_6 rfl (lv_at hl 2 rfl) ?_
    refine lv_icmp_gt (tgt := 14) hx hb dX10_in_7 (by decide) (fun hc2 => ?_) (fun hc2 => ?_)
    · have hw := hw.1 hc2
      refine lv_iconst (v := 0) hx hb dX10_in_14 (by decide) ?_
      exact g_zret hE hG hr hlk dX10_in_15 (by decide) hw
    · have hw := hw.2 hc2
      refine lv_iconst (v := 1) hx hb dX10_in_10 (by decide) ?_
      refine lv_goto (tgt := 15) hx hb dX10_in_11 (by decide) ?_
      exact g_zret hE hG hr hlk dX10_in_15 (by decide) hw

set_option maxHeartbeats 4000000 in
set_option maxRecDepth 100000 in
theorem m_X10_isSection (l : Launch) (X : wX) {Q : Int32 → St → Prop} {v0 : Int32} {σ : St} (hw : wp_X10_isSection Q v0 σ) : mI X kmL l yX10_isSection wsX10_isSection rm_X10_isSection [.int v0] σ Q := by
  refine mI.of (cc := cX10_isSection) (maxL := 1) (ret := (some .boolean)) (by decide +kernel) rfl (Nat.le_of_ble_eq_true rfl) ?_
  intro A p e s m args below meth c ls hE hr hlk hl hG
  have hx := hE.1.1
  have hb := hE.1.2.1
  unfold wp_X10_isSection at hw
  have hl : lv_has ls 1 [(0, .int v0)] := hl
  refine lv_iload_n hx hb dX10_isSection_0 rfl (lv_at hl 0 rfl) ?_
  refine lv_iconst (v := 0) hx hb dX10_isSection_1 (by decide) ?_
  refine lv_iconst (v := 5) hx hb dX10_isSection_2 (by decide) ?_
  refine g_calli hG (g_runS (rm := rm_X10_in) (As := [.int v0, .int (0 : Int32), .int (5 : Int32)]) (rest := []) (n := 3) hE hG (m_X10_in l X hw _) gX10_isSection_X10_in rfl rfl rfl (by decide +kernel) ⟨Nat.le_of_ble_eq_true rfl, Nat.le_of_ble_eq_true rfl⟩ rfl hl.1 (Nat.le_of_ble_eq_true rfl) dX10_isSection_3 ⟨Nat.zero_le _, Nat.zero_le _⟩) (fun r1 σ2 H locs hw hG => ?_)
  exact g_zret hE hG hr hlk dX10_isSection_6 hw.1 hw.2

set_option maxHeartbeats 4000000 in
set_option maxRecDepth 100000 in
theorem m_X10_isAct (l : Launch) (X : wX) {Q : Int32 → St → Prop} {v0 : Int32} {σ : St} (hw : wp_X10_isAct Q v0 σ) : mI X kmL l yX10_isAct wsX10_isAct rm_X10_isAct [.int v0] σ Q := by
  refine mI.of (cc := cX10_isAct) (maxL := 1) (ret := (some .boolean)) (by decide +kernel) rfl (Nat.le_of_ble_eq_true rfl) ?_
  intro A p e s m args below meth c ls hE hr hlk hl hG
  have hx := hE.1.1
  have hb := hE.1.2.1
  unfold wp_X10_isAct at hw
  have hl : lv_has ls 1 [(0, .int v0)] := hl
  refine lv_iload_n hx hb dX10_isAct_0 rfl (lv_at hl 0 rfl) ?_
  refine lv_iconst (v := 0) hx hb dX10_isAct_1 (by decide) ?_
  refine lv_bipush (v := (7)) hx hb dX10_isAct_2 (by decide) ?_
  refine g_calli hG (g_runS (rm := rm_X10_in) (As := [.int v0, .int (0 : Int32), .int (7 : Int32)]) (rest := []) (n := 3) hE hG (m_X10_in l X hw _) gX10_isAct_X10_in rfl rfl rfl (by decide +kernel) ⟨Nat.le_of_ble_eq_true rfl, Nat.le_of_ble_eq_true rfl⟩ rfl hl.1 (Nat.le_of_ble_eq_true rfl) dX10_isAct_4 ⟨Nat.zero_le _, Nat.zero_le _⟩) (fun r1 σ2 H locs hw hG => ?_)
  exact g_zret hE hG hr hlk dX10_isAct_7 hw.1 hw.2

set_option maxHeartbeats 4000000 in
set_option maxRecDepth 100000 in
theorem m_X10_isDegree (l : Launch) (X : wX) {Q : Int32 → St → Prop} {v0 : Int32} {σ : St} (hw : wp_X10_isDegree Q v0 σ) : mI X kmL l yX10_isDegree wsX10_isDegree rm_X10_isDegree [.int v0] σ Q := by
  refine mI.of (cc := cX10_isDegree) (maxL := 1) (ret := (some .boolean)) (by decide +kernel) rfl (Nat.le_of_ble_eq_true rfl) ?_
  intro A p e s m args below meth c ls hE hr hlk hl hG
  have hx := hE.1.1
  have hb := hE.1.2.1
  unfold wp_X10_isDegree at hw
  have hl : lv_has ls 1 [(0, .int v0)] := hl
  refine lv_iload_n hx hb dX10_isDegree_0 rfl (lv_at hl 0 rfl) ?_
  refine lv_iconst (v := 0) hx hb dX10_isDegree_1 (by decide) ?_
  refine lv_sipush (v := (359)) hx hb dX10_isDegree_2 (by decide) ?_
  refine g_calli hG (g_runS (rm := rm_X10_in) (As := [.int v0, .int (0 : Int32), .int (359 : Int32)]) (rest := []) (n := 3) hE hG (m_X10_in l X hw _) gX10_isDegree_X10_in rfl rfl rfl (by decide +kernel) ⟨Nat.le_of_ble_eq_true rfl, Nat.le_of_ble_eq_true rfl⟩ rfl hl.1 (Nat.le_of_ble_eq_true rfl) dX10_isDegree_5 ⟨Nat.zero_le _, Nat.zero_le _⟩) (fun r1 σ2 H locs hw hG => ?_)
  exact g_zret hE hG hr hlk dX10_isDegree_8 hw.1 hw.2

set_option maxHeartbeats 4000000 in
set_option maxRecDepth 100000 in
theorem m_X10_isArm (l : Launch) (X : wX) {Q : Int32 → St → Prop} {v0 : Int32} {σ : St} (hw : wp_X10_isArm Q v0 σ) : mI X kmL l yX10_isArm wsX10_isArm rm_X10_isArm [.int v0] σ Q := by
  refine mI.of (cc := cX10_isArm) (maxL := 1) (ret := (some .boolean)) (by decide +kernel) rfl (Nat.le_of_ble_eq_true rfl) ?_
  intro A p e s m args below meth c ls hE hr hlk hl hG
  have hx := hE.1.1
  have hb := hE.1.2.1
  unfold wp_X10_isArm at hw
  have hl : lv_has ls 1 [(0, .int v0)] := hl
  refine lv_iload_n hx hb dX10_isArm_0 rfl (lv_at hl 0 rfl) ?_
  refine lv_iconst (v := 0) hx hb dX10_isArm_1 (by decide) ?_
  refine lv_iconst (v := 2) hx hb dX10_isArm_2 (by decide) ?_
  refine g_calli hG (g_runS (rm := rm_X10_in) (As := [.int v0, .int (0 : Int32), .int (2 : Int32)]) (rest := []) (n := 3) hE hG (m_X10_in l X hw _) gX10_isArm_X10_in rfl rfl rfl (by decide +kernel) ⟨Nat.le_of_ble_eq_true rfl, Nat.le_of_ble_eq_true rfl⟩ rfl hl.1 (Nat.le_of_ble_eq_true rfl) dX10_isArm_3 ⟨Nat.zero_le _, Nat.zero_le _⟩) (fun r1 σ2 H locs hw hG => ?_)
  exact g_zret hE hG hr hlk dX10_isArm_6 hw.1 hw.2

set_option maxHeartbeats 4000000 in
set_option maxRecDepth 100000 in
theorem m_X10_isMould (l : Launch) (X : wX) {Q : Int32 → St → Prop} {v0 : Int32} {σ : St} (hw : wp_X10_isMould Q v0 σ) : mI X kmL l yX10_isMould wsX10_isMould rm_X10_isMould [.int v0] σ Q := by
  refine mI.of (cc := cX10_isMould) (maxL := 1) (ret := (some .boolean)) (by decide +kernel) rfl (Nat.le_of_ble_eq_true rfl) ?_
  intro A p e s m args below meth c ls hE hr hlk hl hG
  have hx := hE.1.1
  have hb := hE.1.2.1
  unfold wp_X10_isMould at hw
  have hl : lv_has ls 1 [(0, .int v0)] := hl
  refine lv_iload_n hx hb dX10_isMould_0 rfl (lv_at hl 0 rfl) ?_
  refine lv_iconst (v := 0) hx hb dX10_isMould_1 (by decide) ?_
  refine lv_bipush (v := (29)) hx hb dX10_isMould_2 (by decide) ?_
  refine g_calli hG (g_runS (rm := rm_X10_in) (As := [.int v0, .int (0 : Int32), .int (29 : Int32)]) (rest := []) (n := 3) hE hG (m_X10_in l X hw _) gX10_isMould_X10_in rfl rfl rfl (by decide +kernel) ⟨Nat.le_of_ble_eq_true rfl, Nat.le_of_ble_eq_true rfl⟩ rfl hl.1 (Nat.le_of_ble_eq_true rfl) dX10_isMould_4 ⟨Nat.zero_le _, Nat.zero_le _⟩) (fun r1 σ2 H locs hw hG => ?_)
  exact g_zret hE hG hr hlk dX10_isMould_7 hw.1 hw.2

set_option maxHeartbeats 4000000 in
set_option maxRecDepth 100000 in
theorem m_X10_isJob (l : Launch) (X : wX) {Q : Int32 → St → Prop} {v0 : Int32} {σ : St} (hw : wp_X10_isJob Q v0 σ) : mI X kmL l yX10_isJob wsX10_isJob rm_X10_isJob [.int v0] σ Q := by
  refine mI.of (cc := cX10_isJob) (maxL := 1) (ret := (some .boolean)) (by decide +kernel) rfl (Nat.le_of_ble_eq_true rfl) ?_
  intro A p e s m args below meth c ls hE hr hlk hl hG
  have hx := hE.1.1
  have hb := hE.1.2.1
  unfold wp_X10_isJob at hw
  have hl : lv_has ls 1 [(0, .int v0)] := hl
  refine lv_iload_n hx hb dX10_isJob_0 rfl (lv_at hl 0 rfl) ?_
  refine lv_iconst (v := 0) hx hb dX10_isJob_1 (by decide) ?_
  refine lv_iconst (v := 3) hx hb dX10_isJob_2 (by decide) ?_
  refine g_calli hG (g_runS (rm := rm_X10_in) (As := [.int v0, .int (0 : Int32), .int (3 : Int32)]) (rest := []) (n := 3) hE hG (m_X10_in l X hw _) gX10_isJob_X10_in rfl rfl rfl (by decide +kernel) ⟨Nat.le_of_ble_eq_true rfl, Nat.le_of_ble_eq_true rfl⟩ rfl hl.1 (Nat.le_of_ble_eq_true rfl) dX10_isJob_3 ⟨Nat.zero_le _, Nat.zero_le _⟩) (fun r1 σ2 H locs hw hG => ?_)
  exact g_zret hE hG hr hlk dX10_isJob_6 hw.1 hw.2

set_option maxHeartbeats 4000000 in
set_option maxRecDepth 100000 in
theorem m_X10_lengthOf (l : Launch) (X : wX) {Q : Int32 → St → Prop} {v1 : Int32} {v2 : Int32} {σ : St} (hw : wp_X10_lengthOf Q v1 v2 σ) : mI X kmL l yX10_lengthOf wsX10_lengthOf rm_X10_lengthOf [.ref (X.2.1 0), .int v1, .int v2] σ Q := by
  refine mI.of (cc := cX10_lengthOf) (maxL := 3) (ret := (some .int)) (by decide +kernel) rfl (Nat.le_of_ble_eq_true rfl) ?_
  intro A p e s m args below meth c ls hE hr hlk hl hG
  have hx := hE.1.1
  have hb := hE.1.2.1
  unfold wp_X10_lengthOf at hw
  have hl : lv_has ls 3 [(0, .ref (X.2.1 0)), (1, .int v1), (2, .int v2)] := hl
  refine lv_aload_n hx hb dX10_lengthOf_0 rfl (lv_at hl 0 rfl) ?_
  refine g_get (k := 1) hE hG (kd_lt km0 (by decide)) (ce_10 km0) rfl (by decide +kernel) (by decide) (by decide +kernel) rfl rfl dX10_lengthOf_1 ?_
  refine lv_bipush (v := (8)) hx hb dX10_lengthOf_4 (by decide) ?_
  refine lv_iload_n hx hb dX10_lengthOf_6 rfl (lv_at hl 1 rfl) ?_
  refine lv_imul hx hb dX10_lengthOf_7 ?_
  refine lv_iload_n hx hb dX10_lengthOf_8 rfl (lv_at hl 2 rfl) ?_
  refine lv_iadd hx hb dX10_lengthOf_9 ?_
  obtain ⟨hi1, hw⟩ := hw
  refine g_iald (n := 48) hE hG (kd_lt km2 (by decide)) (ce_int km2 (by decide) (by decide)) hi1 dX10_lengthOf_10 ?_
  refine lv_aload_n hx hb dX10_lengthOf_11 rfl (lv_at hl 0 rfl) ?_
  refine g_get (k := 0) hE hG (kd_lt km0 (by decide)) (ce_10 km0) rfl (by decide +kernel) (by decide) (by decide +kernel) rfl rfl dX10_lengthOf_12 ?_
  refine lv_bipush (v := (8)) hx hb dX10_lengthOf_15 (by decide) ?_
  refine lv_iload_n hx hb dX10_lengthOf_17 rfl (lv_at hl 1 rfl) ?_
  refine lv_imul hx hb dX10_lengthOf_18 ?_
  refine lv_iload_n hx hb dX10_lengthOf_19 rfl (lv_at hl 2 rfl) ?_
  refine lv_iadd hx hb dX10_lengthOf_20 ?_
  obtain ⟨hi2, hw⟩ := hw
  refine g_iald (n := 48) hE hG (kd_lt km1 (by decide)) (ce_int km1 (by decide) (by decide)) hi2 dX10_lengthOf_21 ?_
  refine lv_isub hx hb dX10_lengthOf_22 ?_
  refine lv_sipush (v := (360)) hx hb dX10_lengthOf_23 (by decide) ?_
  refine lv_iadd hx hb dX10_lengthOf_26 ?_
  refine lv_sipush (v := (360)) hx hb dX10_lengthOf_27 (by decide) ?_
  refine lv_irem hx hb dX10_lengthOf_30 (by decide) ?_
  exact g_iret hE hG hr hlk dX10_lengthOf_31 hw

set_option maxHeartbeats 4000000 in
set_option maxRecDepth 100000 in
theorem m_X10_isDone (l : Launch) (X : wX) {Q : Int32 → St → Prop} {v1 : Int32} {v2 : Int32} {v3 : Int32} {σ : St} (hw : wp_X10_isDone Q v1 v2 v3 σ) : mI X kmL l yX10_isDone wsX10_isDone rm_X10_isDone [.ref (X.2.1 0), .int v1, .int v2, .int v3] σ Q := by
  refine mI.of (cc := cX10_isDone) (maxL := 4) (ret := (some .boolean)) (by decide +kernel) rfl (Nat.le_of_ble_eq_true rfl) ?_
  intro A p e s m args below meth c ls hE hr hlk hl hG
  have hx := hE.1.1
  have hb := hE.1.2.1
  unfold wp_X10_isDone at hw
  have hl : lv_has ls 4 [(0, .ref (X.2.1 0)), (1, .int v1), (2, .int v2), (3, .int v3)] := hl
  refine lv_iload_n hx hb dX10_isDone_0 rfl (lv_at hl 3 rfl) ?_
  refine lv_aload_n hx hb dX10_isDone_1 rfl (lv_at hl 0 rfl) ?_
  refine g_get (k := 0) hE hG (kd_lt km0 (by decide)) (ce_10 km0) rfl (by decide +kernel) (by decide) (by decide +kernel) rfl rfl dX10_isDone_2 ?_
  refine lv_bipush (v := (8)) hx hb dX10_isDone_5 (by decide) ?_
  refine lv_iload_n hx hb dX10_isDone_7 rfl (lv_at hl 1 rfl) ?_
  refine lv_imul hx hb dX10_isDone_8 ?_
  refine lv_iload_n hx hb dX10_isDone_9 rfl (lv_at hl 2 rfl) ?_
  refine lv_iadd hx hb dX10_isDone_10 ?_
  obtain ⟨hi1, hw⟩ := hw
  refine g_iald (n := 48) hE hG (kd_lt km1 (by decide)) (ce_int km1 (by decide) (by decide)) hi1 dX10_isDone_11 ?_
  refine lv_isub hx hb dX10_isDone_12 ?_
  refine lv_sipush (v := (360)) hx hb dX10_isDone_13 (by decide) ?_
  refine lv_iadd hx hb dX10_isDone_16 ?_
  refine lv_sipush (v := (360)) hx hb dX10_isDone_17 (by decide) ?_
  refine lv_irem hx hb dX10_isDone_20 (by decide) ?_
  refine lv_aload_n hx hb dX10_isDone_21 rfl (lv_at hl 0 rfl) ?_
  refine lv_iload_n hx hb dX10_isDone_22 rfl (lv_at hl 1 rfl) ?_
  refine lv_iload_n hx hb dX10_isDone_23 rfl (lv_at hl 2 rfl) ?_
  refine g_calli hG (g_runV (rm := rm_X10_lengthOf) (As := [.int v1, .int v2]) (rest := [.int (jrem ((v3 - (σ 1 (((8 : Int32) * v1) + v2).toNatClampNeg)) + (360 : Int32)) (360 : Int32))]) (n := 2) hE hG (m_X10_lengthOf l X hw _) gX10_isDone_X10_lengthOf rfl rfl rfl (by decide +kernel) ⟨Nat.le_of_ble_eq_true rfl, Nat.le_of_ble_eq_true rfl⟩ (kd_lt km0 (by decide)) (ce_10 km0) rfl rfl rfl hl.1 (Nat.le_of_ble_eq_true rfl) dX10_isDone_24 ⟨Nat.zero_le _, Nat.zero_le _⟩) (fun r2 σ3 H locs hw hG => ?_)
  refine lv_icmp_ge (tgt := 34) hx hb dX10_isDone_27 (by decide) (fun hc4 => ?_) (fun hc4 => ?_)
  · have hw := hw.1 hc4
    refine lv_iconst (v := 0) hx hb dX10_isDone_34 (by decide) ?_
    exact g_zret hE hG hr hlk dX10_isDone_35 (by decide) hw
  · have hw := hw.2 hc4
    refine lv_iconst (v := 1) hx hb dX10_isDone_30 (by decide) ?_
    refine lv_goto (tgt := 35) hx hb dX10_isDone_31 (by decide) ?_
    exact g_zret hE hG hr hlk dX10_isDone_35 (by decide) hw

set_option maxHeartbeats 4000000 in
set_option maxRecDepth 100000 in
theorem b_X10_keeps_119 {p : Program} {l : Launch} {e : Env} {s : State} {m : MethodId} {args : Array Value} {below : List Frame} {meth : Method} {c : Code} {X : wX} {A : Nat → Prop} (hE : eV p m c cX10_keeps 11 s args wsX10_keeps RX10 X) (hr : meth.sig.returnType = (some .boolean)) (hlk : meth.locks = false) {Q : Int32 → St → Prop} {v1 : Int32} {v2 : Int32} {v4 : Int32} {v5 : Int32} : ∀ (n : Nat) (σ : St) (v7 : Int32) (v8 : Int32) (H : Heap) (locs : List Loc) (ls : Array Slot), wl_X10_keeps_119 Q v1 v2 v4 v5 n σ v7 v8 → gW X kmL A s.heap σ H locs → lv_has ls 11 [(0, .ref (X.2.1 0)), (1, .int v1), (2, .int v2), (4, .int v4), (5, .int v5), (7, .int v7), (8, .int v8)] → W p l e rm_X10_keeps s m args below meth c H locs 0 0 (zI X kmL below args s A Q) (F0 m 119 ls []) := by
  have hx := hE.1.1
  have hb := hE.1.2.1
  intro n
  induction n with
  | zero =>
    intro σ v7 v8 H locs ls hw
    exact False.elim hw
  | succ n ih =>
    intro σ v7 v8 H locs ls hw hG hl
    have hw : wB_X10_keeps_119 Q (wl_X10_keeps_119 Q v1 v2 v4 v5 n) v1 v2 v4 v5 σ v7 v8 := hw
    unfold wB_X10_keeps_119 at hw
    refine lv_iload hx hb dX10_keeps_119 (lv_at hl 6 rfl) ?_
    refine lv_sipush (v := (360)) hx hb dX10_keeps_121 (by decide) ?_
    refine lv_icmp_ge (tgt := 200) hx hb dX10_keeps_124 (by decide) (fun hc11 => ?_) (fun hc11 => ?_)
    · have hw := hw.1 hc11
      refine lv_iload hx hb dX10_keeps_200 (lv_at hl 5 rfl) ?_
      exact g_zret hE hG hr hlk dX10_keeps_202 hw.1 hw.2
    · have hw := hw.2 hc11
      refine lv_aload_n hx hb dX10_keeps_127 rfl (lv_at hl 0 rfl) ?_
      refine lv_iload_n hx hb dX10_keeps_128 rfl (lv_at hl 1 rfl) ?_
      refine lv_iload hx hb dX10_keeps_129 (lv_at hl 3 rfl) ?_
      refine lv_iload hx hb dX10_keeps_131 (lv_at hl 6 rfl) ?_
      refine g_calli hG (g_runV (rm := rm_X10_isDone) (As := [.int v1, .int v4, .int v8]) (rest := []) (n := 3) hE hG (m_X10_isDone l X hw _) gX10_keeps_X10_isDone rfl rfl rfl (by decide +kernel) ⟨Nat.le_of_ble_eq_true rfl, Nat.le_of_ble_eq_true rfl⟩ (kd_lt km0 (by decide)) (ce_10 km0) rfl rfl rfl hl.1 (Nat.le_of_ble_eq_true rfl) dX10_keeps_133 ⟨Nat.zero_le _, Nat.zero_le _⟩) (fun r12 σ13 H locs hw hG => ?_)
      refine lv_istore (lv' := [(9, .int r12), (0, .ref (X.2.1 0)), (1, .int v1), (2, .int v2), (4, .int v4), (5, .int v5), (7, .int v7), (8, .int v8)]) hx hb dX10_keeps_136 hl (by decide) rfl (fun ls hl => ?_)
      refine lv_aload_n hx hb dX10_keeps_138 rfl (lv_at hl 1 rfl) ?_
      refine lv_iload_n hx hb dX10_keeps_139 rfl (lv_at hl 2 rfl) ?_
      refine lv_iload hx hb dX10_keeps_140 (lv_at hl 5 rfl) ?_
      refine lv_iload hx hb dX10_keeps_142 (lv_at hl 7 rfl) ?_
      refine g_calli hG (g_runV (rm := rm_X10_isDone) (As := [.int v1, .int v5, .int v8]) (rest := []) (n := 3) hE hG (m_X10_isDone l X hw _) gX10_keeps_X10_isDone rfl rfl rfl (by decide +kernel) ⟨Nat.le_of_ble_eq_true rfl, Nat.le_of_ble_eq_true rfl⟩ (kd_lt km0 (by decide)) (ce_10 km0) rfl rfl rfl hl.1 (Nat.le_of_ble_eq_true rfl) dX10_keeps_144 ⟨Nat.zero_le _, Nat.zero_le _⟩) (fun r14 σ15 H locs hw hG => ?_)
      refine lv_istore (lv' := [(10, .int r14), (9, .int r12), (0, .ref (X.2.1 0)), (1, .int v1), (2, .int v2), (4, .int v4), (5, .int v5), (7, .int v7), (8, .int v8)]) hx hb dX10_keeps_147 hl (by decide) rfl (fun ls hl => ?_)
      refine lv_iload hx hb dX10_keeps_149 (lv_at hl 7 rfl) ?_
      refine lv_if_eq (tgt := 191) hx hb dX10_keeps_151 (by decide) (fun hc16 => ?_) (fun hc16 => ?_)
      · have hw := hw.1 hc16
        refine lv_iconst (v := 0) hx hb dX10_keeps_191 (by decide) ?_
        refine lv_istore (lv' := [(7, .int (0 : Int32)), (10, .int r14), (9, .int r12), (0, .ref (X.2.1 0)), (1, .int v1), (2, .int v2), (4, .int v4), (5, .int v5), (8, .int v8)]) hx hb dX10_keeps_192 hl (by decide) rfl (fun ls hl => ?_)
        obtain ⟨x17, ex17⟩ : ∃ z : Int32, z = v8 + (1 : Int32) := ⟨_, rfl⟩
        have hw := hw x17 ex17
        refine lv_iinc (v := x17) (lv' := [(8, .int x17), (7, .int (0 : Int32)), (10, .int r14), (9, .int r12), (0, .ref (X.2.1 0)), (1, .int v1), (2, .int v2), (4, .int v4), (5, .int v5)]) hx hb dX10_keeps_194 hl (k := 8) rfl (by rw [ex17]; rfl) (by decide) rfl (fun ls hl => ?_)
        refine lv_goto (tgt := 119) hx hb dX10_keeps_197 (by decide) ?_
        exact ih _ _ _ _ _ _ hw hG (lv_sub hl [4, 5, 6, 7, 8, 1, 0] rfl)
      · have hw := hw.2 hc16
        refine lv_aload_n hx hb dX10_keeps_154 rfl (lv_at hl 2 rfl) ?_
        refine g_get (k := 3) hE hG (kd_lt km0 (by decide)) (ce_10 km0) rfl (by decide +kernel) (by decide) (by decide +kernel) rfl rfl dX10_keeps_155 ?_
        refine lv_iload_n hx hb dX10_keeps_158 rfl (lv_at hl 4 rfl) ?_
        obtain ⟨hi18, hw⟩ := hw
        refine g_iald (n := 17) hE hG (kd_lt km3 (by decide)) (ce_int km3 (by decide) (by decide)) hi18 dX10_keeps_159 ?_
        refine lv_iconst (v := 1) hx hb dX10_keeps_160 (by decide) ?_
        refine lv_icmp_ne (tgt := 177) hx hb dX10_keeps_161 (by decide) (fun hc19 => ?_) (fun hc19 => ?_)
        · have hw := hw.1 hc19
          refine lv_iload hx hb dX10_keeps_177 (lv_at hl 1 rfl) ?_
          refine lv_if_eq (tgt := 187) hx hb dX10_keeps_179 (by decide) (fun hc20 => ?_) (fun hc20 => ?_)
          · have hw := hw.1 hc20
            refine lv_iconst (v := 1) hx hb dX10_keeps_187 (by decide) ?_
            refine lv_goto (tgt := 192) hx hb dX10_keeps_188 (by decide) ?_
            refine lv_istore (lv' := [(7, .int (1 : Int32)), (10, .int r14), (9, .int r12), (0, .ref (X.2.1 0)), (1, .int v1), (2, .int v2), (4, .int v4), (5, .int v5), (8, .int v8)]) hx hb dX10_keeps_192 hl (by decide) rfl (fun ls hl => ?_)
            obtain ⟨x21, ex21⟩ : ∃ z : Int32, z = v8 + (1 : Int32) := ⟨_, rfl⟩
            have hw := hw x21 ex21
            refine lv_iinc (v := x21) (lv' := [(8, .int x21), (7, .int (1 : Int32)), (10, .int r14), (9, .int r12), (0, .ref (X.2.1 0)), (1, .int v1), (2, .int v2), (4, .int v4), (5, .int v5)]) hx hb dX10_keeps_194 hl (k := 8) rfl (by rw [ex21]; rfl) (by decide) rfl (fun ls hl => ?_)
            refine lv_goto (tgt := 119) hx hb dX10_keeps_197 (by decide) ?_
            exact ih _ _ _ _ _ _ hw hG (lv_sub hl [4, 5, 6, 7, 8, 1, 0] rfl)
          · have hw := hw.2 hc20
            refine lv_iload hx hb dX10_keeps_182 (lv_at hl 0 rfl) ?_
            refine lv_if_eq (tgt := 191) hx hb dX10_keeps_184 (by decide) (fun hc22 => ?_) (fun hc22 => ?_)
            · have hw := hw.1 hc22
              refine lv_iconst (v := 0) hx hb dX10_keeps_191 (by decide) ?_
              refine lv_istore (lv' := [(7, .int (0 : Int32)), (10, .int r14), (9, .int r12), (0, .ref (X.2.1 0)), (1, .int v1), (2, .int v2), (4, .int v4), (5, .int v5), (8, .int v8)]) hx hb dX10_keeps_192 hl (by decide) rfl (fun ls hl => ?_)
              obtain ⟨x23, ex23⟩ : ∃ z : Int32, z = v8 + (1 : Int32) := ⟨_, rfl⟩
              have hw := hw x23 ex23
              refine lv_iinc (v := x23) (lv' := [(8, .int x23), (7, .int (0 : Int32)), (10, .int r14), (9, .int r12), (0, .ref (X.2.1 0)), (1, .int v1), (2, .int v2), (4, .int v4), (5, .int v5)]) hx hb dX10_keeps_194 hl (k := 8) rfl (by rw [ex23]; rfl) (by decide) rfl (fun ls hl => ?_)
              refine lv_goto (tgt := 119) hx hb dX10_keeps_197 (by decide) ?_
              exact ih _ _ _ _ _ _ hw hG (lv_sub hl [4, 5, 6, 7, 8, 1, 0] rfl)
            · have hw := hw.2 hc22
              refine lv_iconst (v := 1) hx hb dX10_keeps_187 (by decide) ?_
              refine lv_goto (tgt := 192) hx hb dX10_keeps_188 (by decide) ?_
              refine lv_istore (lv' := [(7, .int (1 : Int32)), (10, .int r14), (9, .int r12), (0, .ref (X.2.1 0)), (1, .int v1), (2, .int v2), (4, .int v4), (5, .int v5), (8, .int v8)]) hx hb dX10_keeps_192 hl (by decide) rfl (fun ls hl => ?_)
              obtain ⟨x24, ex24⟩ : ∃ z : Int32, z = v8 + (1 : Int32) := ⟨_, rfl⟩
              have hw := hw x24 ex24
              refine lv_iinc (v := x24) (lv' := [(8, .int x24), (7, .int (1 : Int32)), (10, .int r14), (9, .int r12), (0, .ref (X.2.1 0)), (1, .int v1), (2, .int v2), (4, .int v4), (5, .int v5)]) hx hb dX10_keeps_194 hl (k := 8) rfl (by rw [ex24]; rfl) (by decide) rfl (fun ls hl => ?_)
              refine lv_goto (tgt := 119) hx hb dX10_keeps_197 (by decide) ?_
              exact ih _ _ _ _ _ _ hw hG (lv_sub hl [4, 5, 6, 7, 8, 1, 0] rfl)
        · have hw := hw.2 hc19
          refine lv_iload hx hb dX10_keeps_164 (lv_at hl 1 rfl) ?_
          refine lv_if_eq (tgt := 187) hx hb dX10_keeps_166 (by decide) (fun hc25 => ?_) (fun hc25 => ?_)
          · have hw := hw.1 hc25
            refine lv_iconst (v := 1) hx hb dX10_keeps_187 (by decide) ?_
            refine lv_goto (tgt := 192) hx hb dX10_keeps_188 (by decide) ?_
            refine lv_istore (lv' := [(7, .int (1 : Int32)), (10, .int r14), (9, .int r12), (0, .ref (X.2.1 0)), (1, .int v1), (2, .int v2), (4, .int v4), (5, .int v5), (8, .int v8)]) hx hb dX10_keeps_192 hl (by decide) rfl (fun ls hl => ?_)
            obtain ⟨x26, ex26⟩ : ∃ z : Int32, z = v8 + (1 : Int32) := ⟨_, rfl⟩
            have hw := hw x26 ex26
            refine lv_iinc (v := x26) (lv' := [(8, .int x26), (7, .int (1 : Int32)), (10, .int r14), (9, .int r12), (0, .ref (X.2.1 0)), (1, .int v1), (2, .int v2), (4, .int v4), (5, .int v5)]) hx hb dX10_keeps_194 hl (k := 8) rfl (by rw [ex26]; rfl) (by decide) rfl (fun ls hl => ?_)
            refine lv_goto (tgt := 119) hx hb dX10_keeps_197 (by decide) ?_
            exact ih _ _ _ _ _ _ hw hG (lv_sub hl [4, 5, 6, 7, 8, 1, 0] rfl)
          · have hw := hw.2 hc25
            refine lv_iload hx hb dX10_keeps_169 (lv_at hl 0 rfl) ?_
            refine lv_if_eq (tgt := 187) hx hb dX10_keeps_171 (by decide) (fun hc27 => ?_) (fun hc27 => ?_)
            · have hw := hw.1 hc27
              refine lv_iconst (v := 1) hx hb dX10_keeps_187 (by decide) ?_
              refine lv_goto (tgt := 192) hx hb dX10_keeps_188 (by decide) ?_
              refine lv_istore (lv' := [(7, .int (1 : Int32)), (10, .int r14), (9, .int r12), (0, .ref (X.2.1 0)), (1, .int v1), (2, .int v2), (4, .int v4), (5, .int v5), (8, .int v8)]) hx hb dX10_keeps_192 hl (by decide) rfl (fun ls hl => ?_)
              obtain ⟨x28, ex28⟩ : ∃ z : Int32, z = v8 + (1 : Int32) := ⟨_, rfl⟩
              have hw := hw x28 ex28
              refine lv_iinc (v := x28) (lv' := [(8, .int x28), (7, .int (1 : Int32)), (10, .int r14), (9, .int r12), (0, .ref (X.2.1 0)), (1, .int v1), (2, .int v2), (4, .int v4), (5, .int v5)]) hx hb dX10_keeps_194 hl (k := 8) rfl (by rw [ex28]; rfl) (by decide) rfl (fun ls hl => ?_)
              refine lv_goto (tgt := 119) hx hb dX10_keeps_197 (by decide) ?_
              exact ih _ _ _ _ _ _ hw hG (lv_sub hl [4, 5, 6, 7, 8, 1, 0] rfl)
            · have hw := hw.2 hc27
              refine lv_goto (tgt := 191) hx hb dX10_keeps_174 (by decide) ?_
              refine lv_iconst (v := 0) hx hb dX10_keeps_191 (by decide) ?_
              refine lv_istore (lv' := [(7, .int (0 : Int32)), (10, .int r14), (9, .int r12), (0, .ref (X.2.1 0)), (1, .int v1), (2, .int v2), (4, .int v4), (5, .int v5), (8, .int v8)]) hx hb dX10_keeps_192 hl (by decide) rfl (fun ls hl => ?_)
              obtain ⟨x29, ex29⟩ : ∃ z : Int32, z = v8 + (1 : Int32) := ⟨_, rfl⟩
              have hw := hw x29 ex29
              refine lv_iinc (v := x29) (lv' := [(8, .int x29), (7, .int (0 : Int32)), (10, .int r14), (9, .int r12), (0, .ref (X.2.1 0)), (1, .int v1), (2, .int v2), (4, .int v4), (5, .int v5)]) hx hb dX10_keeps_194 hl (k := 8) rfl (by rw [ex29]; rfl) (by decide) rfl (fun ls hl => ?_)
              refine lv_goto (tgt := 119) hx hb dX10_keeps_197 (by decide) ?_
              exact ih _ _ _ _ _ _ hw hG (lv_sub hl [4, 5, 6, 7, 8, 1, 0] rfl)

set_option maxHeartbeats 4000000 in
set_option maxRecDepth 100000 in
theorem m_X10_keeps (l : Launch) (X : wX) {Q : Int32 → St → Prop} {v1 : Int32} {v2 : Int32} {v3 : Int32} {σ : St} (hw : wp_X10_keeps Q v1 v2 v3 σ) : mI X kmL l yX10_keeps wsX10_keeps rm_X10_keeps [.ref (X.2.1 0), .int v1, .int v2, .int v3] σ Q := by
  refine mI.of (cc := cX10_keeps) (maxL := 11) (ret := (some .boolean)) (by decide +kernel) rfl (Nat.le_of_ble_eq_true rfl) ?_
  intro A p e s m args below meth c ls hE hr hlk hl hG
  have hx := hE.1.1
  have hb := hE.1.2.1
  unfold wp_X10_keeps at hw
  have hl : lv_has ls 11 [(0, .ref (X.2.1 0)), (1, .int v1), (2, .int v2), (3, .int v3)] := hl
  refine lv_aload_n hx hb dX10_keeps_0 rfl (lv_at hl 0 rfl) ?_
  refine g_get (k := 4) hE hG (kd_lt km0 (by decide)) (ce_10 km0) rfl (by decide +kernel) (by decide) (by decide +kernel) rfl rfl dX10_keeps_1 ?_
  refine lv_iload_n hx hb dX10_keeps_4 rfl (lv_at hl 2 rfl) ?_
  obtain ⟨hi1, hw⟩ := hw
  refine g_iald (n := 17) hE hG (kd_lt km4 (by decide)) (ce_int km4 (by decide) (by decide)) hi1 dX10_keeps_5 ?_
  refine lv_topi (fun x2 ex2 => ?_)
  have hw := hw x2 ex2
  refine lv_istore (lv' := [(4, .int x2), (0, .ref (X.2.1 0)), (1, .int v1), (2, .int v2), (3, .int v3)]) hx hb dX10_keeps_6 hl (by decide) rfl (fun ls hl => ?_)
  refine lv_aload_n hx hb dX10_keeps_8 rfl (lv_at hl 1 rfl) ?_
  refine g_get (k := 5) hE hG (kd_lt km0 (by decide)) (ce_10 km0) rfl (by decide +kernel) (by decide) (by decide +kernel) rfl rfl dX10_keeps_9 ?_
  refine lv_iload_n hx hb dX10_keeps_12 rfl (lv_at hl 3 rfl) ?_
  obtain ⟨hi3, hw⟩ := hw
  refine g_iald (n := 17) hE hG (kd_lt km5 (by decide)) (ce_int km5 (by decide) (by decide)) hi3 dX10_keeps_13 ?_
  refine lv_topi (fun x4 ex4 => ?_)
  have hw := hw x4 ex4
  refine lv_istore (lv' := [(5, .int x4), (4, .int x2), (0, .ref (X.2.1 0)), (1, .int v1), (2, .int v2), (3, .int v3)]) hx hb dX10_keeps_14 hl (by decide) rfl (fun ls hl => ?_)
  refine lv_aload_n hx hb dX10_keeps_16 rfl (lv_at hl 2 rfl) ?_
  refine g_get (k := 6) hE hG (kd_lt km0 (by decide)) (ce_10 km0) rfl (by decide +kernel) (by decide) (by decide +kernel) rfl rfl dX10_keeps_17 ?_
  refine lv_iload_n hx hb dX10_keeps_20 rfl (lv_at hl 4 rfl) ?_
  obtain ⟨hi5, hw⟩ := hw
  refine g_iald (n := 17) hE hG (kd_lt km6 (by decide)) (ce_int km6 (by decide) (by decide)) hi5 dX10_keeps_21 ?_
  refine lv_topi (fun x6 ex6 => ?_)
  have hw := hw x6 ex6
  refine lv_istore (lv' := [(6, .int x6), (5, .int x4), (4, .int x2), (0, .ref (X.2.1 0)), (1, .int v1), (2, .int v2), (3, .int v3)]) hx hb dX10_keeps_22 hl (by decide) rfl (fun ls hl => ?_)
  refine lv_aload_n hx hb dX10_keeps_24 rfl (lv_at hl 3 rfl) ?_
  refine g_get (k := 3) hE hG (kd_lt km0 (by decide)) (ce_10 km0) rfl (by decide +kernel) (by decide) (by decide +kernel) rfl rfl dX10_keeps_25 ?_
  refine lv_iload_n hx hb dX10_keeps_28 rfl (lv_at hl 5 rfl) ?_
  obtain ⟨hi7, hw⟩ := hw
  refine g_iald (n := 17) hE hG (kd_lt km3 (by decide)) (ce_int km3 (by decide) (by decide)) hi7 dX10_keeps_29 ?_
  refine lv_if_ne (tgt := 77) hx hb dX10_keeps_30 (by decide) (fun hc8 => ?_) (fun hc8 => ?_)
  · have hw := hw.1 hc8
    refine lv_aload_n hx hb dX10_keeps_77 rfl (lv_at hl 3 rfl) ?_
    refine g_get (k := 3) hE hG (kd_lt km0 (by decide)) (ce_10 km0) rfl (by decide +kernel) (by decide) (by decide +kernel) rfl rfl dX10_keeps_78 ?_
    refine lv_iload_n hx hb dX10_keeps_81 rfl (lv_at hl 5 rfl) ?_
    obtain ⟨hi9, hw⟩ := hw
    refine g_iald (n := 17) hE hG (kd_lt km3 (by decide)) (ce_int km3 (by decide) (by decide)) hi9 dX10_keeps_82 ?_
    refine lv_iconst (v := 2) hx hb dX10_keeps_83 (by decide) ?_
    refine lv_icmp_ne (tgt := 113) hx hb dX10_keeps_84 (by decide) (fun hc10 => ?_) (fun hc10 => ?_)
    · have hw := hw.1 hc10
      refine lv_iconst (v := 1) hx hb dX10_keeps_113 (by decide) ?_
      refine lv_istore (lv' := [(7, .int (1 : Int32)), (6, .int x6), (5, .int x4), (4, .int x2), (0, .ref (X.2.1 0)), (1, .int v1), (2, .int v2), (3, .int v3)]) hx hb dX10_keeps_114 hl (by decide) rfl (fun ls hl => ?_)
      refine lv_iconst (v := 0) hx hb dX10_keeps_116 (by decide) ?_
      refine lv_istore (lv' := [(8, .int (0 : Int32)), (7, .int (1 : Int32)), (6, .int x6), (5, .int x4), (4, .int x2), (0, .ref (X.2.1 0)), (1, .int v1), (2, .int v2), (3, .int v3)]) hx hb dX10_keeps_117 hl (by decide) rfl (fun ls hl => ?_)
      obtain ⟨n, hw⟩ := hw
      exact b_X10_keeps_119 hE hr hlk n _ _ _ _ _ _ hw hG (lv_sub hl [5, 6, 7, 4, 3, 1, 0] rfl)
    · have hw := hw.2 hc10
      refine lv_sipush (v := (500)) hx hb dX10_keeps_87 (by decide) ?_
      refine lv_aload_n hx hb dX10_keeps_90 rfl (lv_at hl 3 rfl) ?_
      refine lv_iload_n hx hb dX10_keeps_91 rfl (lv_at hl 4 rfl) ?_
      refine lv_iload hx hb dX10_keeps_92 (lv_at hl 2 rfl) ?_
      refine g_calli hG (g_runV (rm := rm_X10_lengthOf) (As := [.int v1, .int x2]) (rest := [.int (500 : Int32)]) (n := 2) hE hG (m_X10_lengthOf l X hw _) gX10_keeps_X10_lengthOf rfl rfl rfl (by decide +kernel) ⟨Nat.le_of_ble_eq_true rfl, Nat.le_of_ble_eq_true rfl⟩ (kd_lt km0 (by decide)) (ce_10 km0) rfl rfl rfl hl.1 (Nat.le_of_ble_eq_true rfl) dX10_keeps_94 ⟨Nat.zero_le _, Nat.zero_le _⟩) (fun r30 σ31 H locs hw hG => ?_)
      refine lv_imul hx hb dX10_keeps_97 ?_
      refine lv_iconst (v := 3) hx hb dX10_keeps_98 (by decide) ?_
      refine lv_iload_n hx hb dX10_keeps_99 rfl (lv_at hl 6 rfl) ?_
      refine lv_imul hx hb dX10_keeps_100 ?_
      refine lv_iload hx hb dX10_keeps_101 (lv_at hl 0 rfl) ?_
      refine lv_imul hx hb dX10_keeps_103 ?_
      refine lv_icmp_lt (tgt := 111) hx hb dX10_keeps_104 (by decide) (fun hc32 => ?_) (fun hc32 => ?_)
      · have hw := hw.1 hc32
        refine lv_iconst (v := 0) hx hb dX10_keeps_111 (by decide) ?_
        exact g_zret hE hG hr hlk dX10_keeps_112 (by decide) hw
      · have hw := hw.2 hc32
        refine lv_iconst (v := 1) hx hb dX10_keeps_107 (by decide) ?_
        refine lv_goto (tgt := 112) hx hb dX10_keeps_108 (by decide) ?_
        exact g_zret hE hG hr hlk dX10_keeps_112 (by decide) hw
  · have hw := hw.2 hc8
    refine lv_aload_n hx hb dX10_keeps_33 rfl (lv_at hl 3 rfl) ?_
    refine g_get (k := 0) hE hG (kd_lt km0 (by decide)) (ce_10 km0) rfl (by decide +kernel) (by decide) (by decide +kernel) rfl rfl dX10_keeps_34 ?_
    refine lv_bipush (v := (8)) hx hb dX10_keeps_37 (by decide) ?_
    refine lv_iload_n hx hb dX10_keeps_39 rfl (lv_at hl 4 rfl) ?_
    refine lv_imul hx hb dX10_keeps_40 ?_
    refine lv_iload hx hb dX10_keeps_41 (lv_at hl 1 rfl) ?_
    refine lv_iadd hx hb dX10_keeps_43 ?_
    obtain ⟨hi33, hw⟩ := hw
    refine g_iald (n := 48) hE hG (kd_lt km1 (by decide)) (ce_int km1 (by decide) (by decide)) hi33 dX10_keeps_44 ?_
    refine lv_aload_n hx hb dX10_keeps_45 rfl (lv_at hl 3 rfl) ?_
    refine g_get (k := 1) hE hG (kd_lt km0 (by decide)) (ce_10 km0) rfl (by decide +kernel) (by decide) (by decide +kernel) rfl rfl dX10_keeps_46 ?_
    refine lv_bipush (v := (8)) hx hb dX10_keeps_49 (by decide) ?_
    refine lv_iload_n hx hb dX10_keeps_51 rfl (lv_at hl 4 rfl) ?_
    refine lv_imul hx hb dX10_keeps_52 ?_
    refine lv_iload hx hb dX10_keeps_53 (lv_at hl 2 rfl) ?_
    refine lv_iadd hx hb dX10_keeps_55 ?_
    obtain ⟨hi34, hw⟩ := hw
    refine g_iald (n := 48) hE hG (kd_lt km2 (by decide)) (ce_int km2 (by decide) (by decide)) hi34 dX10_keeps_56 ?_
    refine lv_isub hx hb dX10_keeps_57 ?_
    refine lv_sipush (v := (360)) hx hb dX10_keeps_58 (by decide) ?_
    refine lv_iadd hx hb dX10_keeps_61 ?_
    refine lv_sipush (v := (360)) hx hb dX10_keeps_62 (by decide) ?_
    refine lv_irem hx hb dX10_keeps_65 (by decide) ?_
    refine lv_iload hx hb dX10_keeps_66 (lv_at hl 0 rfl) ?_
    refine lv_icmp_lt (tgt := 75) hx hb dX10_keeps_68 (by decide) (fun hc35 => ?_) (fun hc35 => ?_)
    · have hw := hw.1 hc35
      refine lv_iconst (v := 0) hx hb dX10_keeps_75 (by decide) ?_
      exact g_zret hE hG hr hlk dX10_keeps_76 (by decide) hw
    · have hw := hw.2 hc35
      refine lv_iconst (v := 1) hx hb dX10_keeps_71 (by decide) ?_
      refine lv_goto (tgt := 76) hx hb dX10_keeps_72 (by decide) ?_
      exact g_zret hE hG hr hlk dX10_keeps_76 (by decide) hw

