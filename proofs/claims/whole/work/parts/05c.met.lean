/-! contracts, by program -/
set_option maxHeartbeats 4000000 in
set_option maxRecDepth 100000 in
theorem b_X7_isPairClear_34 {p : Program} {l : Launch} {e : Env} {s : State} {m : MethodId} {args : Array Value} {below : List Frame} {meth : Method} {c : Code} {X : wX} {A : Nat → Prop} (hE : eV p m c cX7_isPairClear 3 s args wsX7_isPairClear RX7 X) (hr : meth.sig.returnType = (some .boolean)) (hlk : meth.locks = false) {Q : Int32 → St → Prop} {o0 : Nat} {o1 : Nat} (h_o0 : kcL.getD o0 999 = 4) (h_o1 : kcL.getD o1 999 = 4) : ∀ (n : Nat) (σ : St) (v2 : Int32) (H : Heap) (locs : List Loc) (ls : Array Slot), wl_X7_isPairClear_34 Q o0 o1 n σ v2 → gW X kcL A s.heap σ H locs → lv_has ls 3 [(0, .ref (X.2.1 o0)), (1, .ref (X.2.1 o1)), (2, .int v2)] → W p l e rm_X7_isPairClear s m args below meth c H locs 0 0 (zI X kcL below args s A Q) (F0 m 34 ls []) := by
  have hx := hE.1.1
  have hb := hE.1.2.1
  intro n
  induction n with
  | zero =>
    intro σ v2 H locs ls hw
    exact False.elim hw
  | succ n ih =>
    intro σ v2 H locs ls hw hG hl
    have hw : wB_X7_isPairClear_34 Q (wl_X7_isPairClear_34 Q o0 o1 n) o0 o1 σ v2 := hw
    unfold wB_X7_isPairClear_34 at hw
    refine lv_iload_n hx hb dX7_isPairClear_34 rfl (lv_at hl 2 rfl) ?_
    refine lv_aload_n hx hb dX7_isPairClear_35 rfl (lv_at hl 1 rfl) ?_
    refine g_get (k := 2) hE hG (kd_lt h_o1 (by decide)) (ce_4 h_o1) rfl (by decide +kernel) (by decide) (by decide +kernel) rfl rfl dX7_isPairClear_36 ?_
    refine lv_icmp_ge (tgt := 64) hx hb dX7_isPairClear_39 (by decide) (fun hc2 => ?_) (fun hc2 => ?_)
    · have hw := hw.1 hc2
      refine lv_iconst (v := 1) hx hb dX7_isPairClear_64 (by decide) ?_
      exact g_zret hE hG hr hlk dX7_isPairClear_65 (by decide) hw
    · have hw := hw.2 hc2
      refine lv_aload_n hx hb dX7_isPairClear_42 rfl (lv_at hl 0 rfl) ?_
      refine lv_aload_n hx hb dX7_isPairClear_43 rfl (lv_at hl 1 rfl) ?_
      refine lv_aload_n hx hb dX7_isPairClear_44 rfl (lv_at hl 1 rfl) ?_
      refine g_get (k := 0) hE hG (kd_lt h_o1 (by decide)) (ce_4 h_o1) rfl (by decide +kernel) (by decide) (by decide +kernel) rfl rfl dX7_isPairClear_45 ?_
      refine lv_iload_n hx hb dX7_isPairClear_48 rfl (lv_at hl 2 rfl) ?_
      obtain ⟨hi3, hw⟩ := hw
      refine g_iald (n := 6) hE hG (kd_lt (kc_deg h_o1) (by decide)) (ce_int (kc_deg h_o1) (by decide) (by decide)) hi3 dX7_isPairClear_49 ?_
      refine g_calli hG (g_runS (rm := rm_X7_isClearAt) (As := [.ref (X.2.1 o0), .ref (X.2.1 o1), .int (σ (o1 + 1) v2.toNatClampNeg)]) (rest := []) (n := 3) hE hG (m_X7_isClearAt l X h_o0 h_o1 hw _) gX7_isPairClear_X7_isClearAt rfl rfl rfl (by decide +kernel) ⟨Nat.le_of_ble_eq_true rfl, Nat.le_of_ble_eq_true rfl⟩ rfl hl.1 (Nat.le_of_ble_eq_true rfl) dX7_isPairClear_50 ⟨Nat.zero_le _, Nat.zero_le _⟩) (fun r4 σ5 H locs hw hG => ?_)
      refine lv_if_ne (tgt := 58) hx hb dX7_isPairClear_53 (by decide) (fun hc6 => ?_) (fun hc6 => ?_)
      · have hw := hw.1 hc6
        obtain ⟨x7, ex7⟩ : ∃ z : Int32, z = v2 + (1 : Int32) := ⟨_, rfl⟩
        have hw := hw x7 ex7
        refine lv_iinc (v := x7) (lv' := [(2, .int x7), (0, .ref (X.2.1 o0)), (1, .ref (X.2.1 o1))]) hx hb dX7_isPairClear_58 hl (k := 2) rfl (by rw [ex7]; rfl) (by decide) rfl (fun ls hl => ?_)
        refine lv_goto (tgt := 34) hx hb dX7_isPairClear_61 (by decide) ?_
        exact ih _ _ _ _ _ hw hG (lv_sub hl [1, 2, 0] rfl)
      · have hw := hw.2 hc6
        refine lv_iconst (v := 0) hx hb dX7_isPairClear_56 (by decide) ?_
        exact g_zret hE hG hr hlk dX7_isPairClear_57 (by decide) hw

set_option maxHeartbeats 4000000 in
set_option maxRecDepth 100000 in
theorem b_X7_isPairClear_2 {p : Program} {l : Launch} {e : Env} {s : State} {m : MethodId} {args : Array Value} {below : List Frame} {meth : Method} {c : Code} {X : wX} {A : Nat → Prop} (hE : eV p m c cX7_isPairClear 3 s args wsX7_isPairClear RX7 X) (hr : meth.sig.returnType = (some .boolean)) (hlk : meth.locks = false) {Q : Int32 → St → Prop} {o0 : Nat} {o1 : Nat} (h_o0 : kcL.getD o0 999 = 4) (h_o1 : kcL.getD o1 999 = 4) : ∀ (n : Nat) (σ : St) (v2 : Int32) (H : Heap) (locs : List Loc) (ls : Array Slot), wl_X7_isPairClear_2 Q o0 o1 n σ v2 → gW X kcL A s.heap σ H locs → lv_has ls 3 [(0, .ref (X.2.1 o0)), (1, .ref (X.2.1 o1)), (2, .int v2)] → W p l e rm_X7_isPairClear s m args below meth c H locs 0 0 (zI X kcL below args s A Q) (F0 m 2 ls []) := by
  have hx := hE.1.1
  have hb := hE.1.2.1
  intro n
  induction n with
  | zero =>
    intro σ v2 H locs ls hw
    exact False.elim hw
  | succ n ih =>
    intro σ v2 H locs ls hw hG hl
    have hw : wB_X7_isPairClear_2 Q (wl_X7_isPairClear_2 Q o0 o1 n) o0 o1 σ v2 := hw
    unfold wB_X7_isPairClear_2 at hw
    refine lv_iload_n hx hb dX7_isPairClear_2 rfl (lv_at hl 2 rfl) ?_
    refine lv_aload_n hx hb dX7_isPairClear_3 rfl (lv_at hl 0 rfl) ?_
    refine g_get (k := 2) hE hG (kd_lt h_o0 (by decide)) (ce_4 h_o0) rfl (by decide +kernel) (by decide) (by decide +kernel) rfl rfl dX7_isPairClear_4 ?_
    refine lv_icmp_ge (tgt := 32) hx hb dX7_isPairClear_7 (by decide) (fun hc1 => ?_) (fun hc1 => ?_)
    · have hw := hw.1 hc1
      refine lv_iconst (v := 0) hx hb dX7_isPairClear_32 (by decide) ?_
      refine lv_istore_n (lv' := [(2, .int (0 : Int32)), (0, .ref (X.2.1 o0)), (1, .ref (X.2.1 o1))]) hx hb dX7_isPairClear_33 rfl hl (by decide) rfl (fun ls hl => ?_)
      obtain ⟨n, hw⟩ := hw
      exact b_X7_isPairClear_34 hE hr hlk h_o0 h_o1 n _ _ _ _ _ hw hG (lv_sub hl [1, 2, 0] rfl)
    · have hw := hw.2 hc1
      refine lv_aload_n hx hb dX7_isPairClear_10 rfl (lv_at hl 0 rfl) ?_
      refine lv_aload_n hx hb dX7_isPairClear_11 rfl (lv_at hl 1 rfl) ?_
      refine lv_aload_n hx hb dX7_isPairClear_12 rfl (lv_at hl 0 rfl) ?_
      refine g_get (k := 0) hE hG (kd_lt h_o0 (by decide)) (ce_4 h_o0) rfl (by decide +kernel) (by decide) (by decide +kernel) rfl rfl dX7_isPairClear_13 ?_
      refine lv_iload_n hx hb dX7_isPairClear_16 rfl (lv_at hl 2 rfl) ?_
      obtain ⟨hi8, hw⟩ := hw
      refine g_iald (n := 6) hE hG (kd_lt (kc_deg h_o0) (by decide)) (ce_int (kc_deg h_o0) (by decide) (by decide)) hi8 dX7_isPairClear_17 ?_
      refine g_calli hG (g_runS (rm := rm_X7_isClearAt) (As := [.ref (X.2.1 o0), .ref (X.2.1 o1), .int (σ (o0 + 1) v2.toNatClampNeg)]) (rest := []) (n := 3) hE hG (m_X7_isClearAt l X h_o0 h_o1 hw _) gX7_isPairClear_X7_isClearAt rfl rfl rfl (by decide +kernel) ⟨Nat.le_of_ble_eq_true rfl, Nat.le_of_ble_eq_true rfl⟩ rfl hl.1 (Nat.le_of_ble_eq_true rfl) dX7_isPairClear_18 ⟨Nat.zero_le _, Nat.zero_le _⟩) (fun r9 σ10 H locs hw hG => ?_)
      refine lv_if_ne (tgt := 26) hx hb dX7_isPairClear_21 (by decide) (fun hc11 => ?_) (fun hc11 => ?_)
      · have hw := hw.1 hc11
        obtain ⟨x12, ex12⟩ : ∃ z : Int32, z = v2 + (1 : Int32) := ⟨_, rfl⟩
        have hw := hw x12 ex12
        refine lv_iinc (v := x12) (lv' := [(2, .int x12), (0, .ref (X.2.1 o0)), (1, .ref (X.2.1 o1))]) hx hb dX7_isPairClear_26 hl (k := 2) rfl (by rw [ex12]; rfl) (by decide) rfl (fun ls hl => ?_)
        refine lv_goto (tgt := 2) hx hb dX7_isPairClear_29 (by decide) ?_
        exact ih _ _ _ _ _ hw hG (lv_sub hl [1, 2, 0] rfl)
      · have hw := hw.2 hc11
        refine lv_iconst (v := 0) hx hb dX7_isPairClear_24 (by decide) ?_
        exact g_zret hE hG hr hlk dX7_isPairClear_25 (by decide) hw

set_option maxHeartbeats 4000000 in
set_option maxRecDepth 100000 in
theorem m_X7_isPairClear (l : Launch) (X : wX) {Q : Int32 → St → Prop} {o0 : Nat} {o1 : Nat} {σ : St} (h_o0 : kcL.getD o0 999 = 4) (h_o1 : kcL.getD o1 999 = 4) (hw : wp_X7_isPairClear Q o0 o1 σ) : mI X kcL l yX7_isPairClear wsX7_isPairClear rm_X7_isPairClear [.ref (X.2.1 o0), .ref (X.2.1 o1)] σ Q := by
  refine mI.of (cc := cX7_isPairClear) (maxL := 3) (ret := (some .boolean)) (by decide +kernel) rfl (Nat.le_of_ble_eq_true rfl) ?_
  intro A p e s m args below meth c ls hE hr hlk hl hG
  have hx := hE.1.1
  have hb := hE.1.2.1
  unfold wp_X7_isPairClear at hw
  have hl : lv_has ls 3 [(0, .ref (X.2.1 o0)), (1, .ref (X.2.1 o1))] := hl
  refine lv_iconst (v := 0) hx hb dX7_isPairClear_0 (by decide) ?_
  refine lv_istore_n (lv' := [(2, .int (0 : Int32)), (0, .ref (X.2.1 o0)), (1, .ref (X.2.1 o1))]) hx hb dX7_isPairClear_1 rfl hl (by decide) rfl (fun ls hl => ?_)
  obtain ⟨n, hw⟩ := hw
  exact b_X7_isPairClear_2 hE hr hlk h_o0 h_o1 n _ _ _ _ _ hw hG (lv_sub hl [1, 2, 0] rfl)

set_option maxHeartbeats 4000000 in
set_option maxRecDepth 100000 in
theorem b_X7_isClear_11 {p : Program} {l : Launch} {e : Env} {s : State} {m : MethodId} {args : Array Value} {below : List Frame} {meth : Method} {c : Code} {X : wX} {A : Nat → Prop} (hE : eV p m c cX7_isClear 3 s args wsX7_isClear RX7 X) (hr : meth.sig.returnType = (some .boolean)) (hlk : meth.locks = false) {Q : Int32 → St → Prop} {L2 : St → Int32 → Prop} {v1 : Int32} (hL2 : ∀ (σ : St) (v1 : Int32) (H : Heap) (locs : List Loc) (ls : Array Slot), L2 σ v1 → gW X kcL A s.heap σ H locs → lv_has ls 3 [(0, .ref (X.2.1 41)), (1, .int v1)] → W p l e rm_X7_isClear s m args below meth c H locs 0 0 (zI X kcL below args s A Q) (F0 m 2 ls [])) : ∀ (n : Nat) (σ : St) (v2 : Int32) (H : Heap) (locs : List Loc) (ls : Array Slot), wl_X7_isClear_11 Q L2 v1 n σ v2 → gW X kcL A s.heap σ H locs → lv_has ls 3 [(0, .ref (X.2.1 41)), (1, .int v1), (2, .int v2)] → W p l e rm_X7_isClear s m args below meth c H locs 0 0 (zI X kcL below args s A Q) (F0 m 11 ls []) := by
  have hx := hE.1.1
  have hb := hE.1.2.1
  intro n
  induction n with
  | zero =>
    intro σ v2 H locs ls hw
    exact False.elim hw
  | succ n ih =>
    intro σ v2 H locs ls hw hG hl
    have hw : wB_X7_isClear_11 Q L2 (wl_X7_isClear_11 Q L2 v1 n) v1 σ v2 := hw
    unfold wB_X7_isClear_11 at hw
    refine lv_iload_n hx hb dX7_isClear_11 rfl (lv_at hl 2 rfl) ?_
    refine lv_iconst (v := 3) hx hb dX7_isClear_12 (by decide) ?_
    refine lv_icmp_ge (tgt := 42) hx hb dX7_isClear_13 (by decide) (fun hc3 => ?_) (fun hc3 => ?_)
    · have hw := hw.1 hc3
      obtain ⟨x4, ex4⟩ : ∃ z : Int32, z = v1 + (1 : Int32) := ⟨_, rfl⟩
      have hw := hw x4 ex4
      refine lv_iinc (v := x4) (lv' := [(1, .int x4), (0, .ref (X.2.1 41)), (2, .int v2)]) hx hb dX7_isClear_42 hl (k := 1) rfl (by rw [ex4]; rfl) (by decide) rfl (fun ls hl => ?_)
      refine lv_goto (tgt := 2) hx hb dX7_isClear_45 (by decide) ?_
      exact hL2 _ _ _ _ _ hw hG (lv_sub hl [1, 0] rfl)
    · have hw := hw.2 hc3
      refine lv_aload_n hx hb dX7_isClear_16 rfl (lv_at hl 0 rfl) ?_
      refine g_get (k := 0) hE hG (kd_lt kc41 (by decide)) (ce_7 kc41) rfl (by decide +kernel) (by decide) (by decide +kernel) rfl rfl dX7_isClear_17 ?_
      refine lv_iload_n hx hb dX7_isClear_20 rfl (lv_at hl 1 rfl) ?_
      obtain ⟨hi5, hw⟩ := hw
      obtain ⟨hk6, hw⟩ := hw
      refine g_aald (q := ((σ 42 v1.toNatClampNeg).toNatClampNeg)) (t0 := 4) hE hG (kd_lt kc42 (by decide)) (ce_302 kc42) rfl hi5 rfl dX7_isClear_21 ?_
      refine lv_aload_n hx hb dX7_isClear_22 rfl (lv_at hl 0 rfl) ?_
      refine g_get (k := 0) hE hG (kd_lt kc41 (by decide)) (ce_7 kc41) rfl (by decide +kernel) (by decide) (by decide +kernel) rfl rfl dX7_isClear_23 ?_
      refine lv_iload_n hx hb dX7_isClear_26 rfl (lv_at hl 2 rfl) ?_
      obtain ⟨hi7, hw⟩ := hw
      obtain ⟨hk8, hw⟩ := hw
      refine g_aald (q := ((σ 42 v2.toNatClampNeg).toNatClampNeg)) (t0 := 4) hE hG (kd_lt kc42 (by decide)) (ce_302 kc42) rfl hi7 rfl dX7_isClear_27 ?_
      refine g_calli hG (g_runS (rm := rm_X7_isPairClear) (As := [.ref (X.2.1 ((σ 42 v1.toNatClampNeg).toNatClampNeg)), .ref (X.2.1 ((σ 42 v2.toNatClampNeg).toNatClampNeg))]) (rest := []) (n := 2) hE hG (m_X7_isPairClear l X hk6 hk8 hw _) gX7_isClear_X7_isPairClear rfl rfl rfl (by decide +kernel) ⟨Nat.le_of_ble_eq_true rfl, Nat.le_of_ble_eq_true rfl⟩ rfl hl.1 (Nat.le_of_ble_eq_true rfl) dX7_isClear_28 ⟨Nat.zero_le _, Nat.zero_le _⟩) (fun r9 σ10 H locs hw hG => ?_)
      refine lv_if_ne (tgt := 36) hx hb dX7_isClear_31 (by decide) (fun hc11 => ?_) (fun hc11 => ?_)
      · have hw := hw.1 hc11
        obtain ⟨x12, ex12⟩ : ∃ z : Int32, z = v2 + (1 : Int32) := ⟨_, rfl⟩
        have hw := hw x12 ex12
        refine lv_iinc (v := x12) (lv' := [(2, .int x12), (0, .ref (X.2.1 41)), (1, .int v1)]) hx hb dX7_isClear_36 hl (k := 2) rfl (by rw [ex12]; rfl) (by decide) rfl (fun ls hl => ?_)
        refine lv_goto (tgt := 11) hx hb dX7_isClear_39 (by decide) ?_
        exact ih _ _ _ _ _ hw hG (lv_sub hl [1, 2, 0] rfl)
      · have hw := hw.2 hc11
        refine lv_iconst (v := 0) hx hb dX7_isClear_34 (by decide) ?_
        exact g_zret hE hG hr hlk dX7_isClear_35 (by decide) hw

set_option maxHeartbeats 4000000 in
set_option maxRecDepth 100000 in
theorem b_X7_isClear_2 {p : Program} {l : Launch} {e : Env} {s : State} {m : MethodId} {args : Array Value} {below : List Frame} {meth : Method} {c : Code} {X : wX} {A : Nat → Prop} (hE : eV p m c cX7_isClear 3 s args wsX7_isClear RX7 X) (hr : meth.sig.returnType = (some .boolean)) (hlk : meth.locks = false) {Q : Int32 → St → Prop} : ∀ (n : Nat) (σ : St) (v1 : Int32) (H : Heap) (locs : List Loc) (ls : Array Slot), wl_X7_isClear_2 Q n σ v1 → gW X kcL A s.heap σ H locs → lv_has ls 3 [(0, .ref (X.2.1 41)), (1, .int v1)] → W p l e rm_X7_isClear s m args below meth c H locs 0 0 (zI X kcL below args s A Q) (F0 m 2 ls []) := by
  have hx := hE.1.1
  have hb := hE.1.2.1
  intro n
  induction n with
  | zero =>
    intro σ v1 H locs ls hw
    exact False.elim hw
  | succ n ih =>
    intro σ v1 H locs ls hw hG hl
    have hw : wB_X7_isClear_2 Q (wl_X7_isClear_2 Q n) σ v1 := hw
    unfold wB_X7_isClear_2 at hw
    refine lv_iload_n hx hb dX7_isClear_2 rfl (lv_at hl 1 rfl) ?_
    refine lv_iconst (v := 3) hx hb dX7_isClear_3 (by decide) ?_
    refine lv_icmp_ge (tgt := 48) hx hb dX7_isClear_4 (by decide) (fun hc1 => ?_) (fun hc1 => ?_)
    · have hw := hw.1 hc1
      refine lv_iconst (v := 1) hx hb dX7_isClear_48 (by decide) ?_
      exact g_zret hE hG hr hlk dX7_isClear_49 (by decide) hw
    · have hw := hw.2 hc1
      refine lv_iload_n hx hb dX7_isClear_7 rfl (lv_at hl 1 rfl) ?_
      refine lv_iconst (v := 1) hx hb dX7_isClear_8 (by decide) ?_
      refine lv_iadd hx hb dX7_isClear_9 ?_
      refine lv_topi (fun x2 ex2 => ?_)
      have hw := hw x2 ex2
      refine lv_istore_n (lv' := [(2, .int x2), (0, .ref (X.2.1 41)), (1, .int v1)]) hx hb dX7_isClear_10 rfl hl (by decide) rfl (fun ls hl => ?_)
      obtain ⟨n, hw⟩ := hw
      exact b_X7_isClear_11 hE hr hlk ih n _ _ _ _ _ hw hG (lv_sub hl [1, 2, 0] rfl)

set_option maxHeartbeats 4000000 in
set_option maxRecDepth 100000 in
theorem m_X7_isClear (l : Launch) (X : wX) {Q : Int32 → St → Prop} {σ : St} (hw : wp_X7_isClear Q σ) : mI X kcL l yX7_isClear wsX7_isClear rm_X7_isClear [.ref (X.2.1 41)] σ Q := by
  refine mI.of (cc := cX7_isClear) (maxL := 3) (ret := (some .boolean)) (by decide +kernel) rfl (Nat.le_of_ble_eq_true rfl) ?_
  intro A p e s m args below meth c ls hE hr hlk hl hG
  have hx := hE.1.1
  have hb := hE.1.2.1
  unfold wp_X7_isClear at hw
  have hl : lv_has ls 3 [(0, .ref (X.2.1 41))] := hl
  refine lv_iconst (v := 0) hx hb dX7_isClear_0 (by decide) ?_
  refine lv_istore_n (lv' := [(1, .int (0 : Int32)), (0, .ref (X.2.1 41))]) hx hb dX7_isClear_1 rfl hl (by decide) rfl (fun ls hl => ?_)
  obtain ⟨n, hw⟩ := hw
  exact b_X7_isClear_2 hE hr hlk n _ _ _ _ _ hw hG (lv_sub hl [1, 0] rfl)

set_option maxHeartbeats 4000000 in
set_option maxRecDepth 100000 in
theorem m_X7_distanceAbove (l : Launch) (X : wX) {Q : Int64 → St → Prop} {o0 : Nat} {o1 : Nat} {v2 : Int32} {σ : St} (h_o0 : kcL.getD o0 999 = 4) (h_o1 : kcL.getD o1 999 = 4) (hw : wp_X7_distanceAbove Q o0 o1 v2 σ) : mL X kcL l yX7_distanceAbove wsX7_distanceAbove rm_X7_distanceAbove [.ref (X.2.1 o0), .ref (X.2.1 o1), .int v2] σ Q := by
  refine mL.of (cc := cX7_distanceAbove) (maxL := 7) (ret := (some .long)) (by decide +kernel) rfl (Nat.le_of_ble_eq_true rfl) ?_
  intro A p e s m args below meth c ls hE hr hlk hl hG
  have hx := hE.1.1
  have hb := hE.1.2.1
  unfold wp_X7_distanceAbove at hw
  have hl : lv_has ls 7 [(0, .ref (X.2.1 o0)), (1, .ref (X.2.1 o1)), (2, .int v2)] := hl
  refine lv_aload_n hx hb dX7_distanceAbove_0 rfl (lv_at hl 1 rfl) ?_
  refine lv_iload_n hx hb dX7_distanceAbove_1 rfl (lv_at hl 2 rfl) ?_
  refine g_calli hG (g_runV (rm := rm_X4_above) (As := [.int v2]) (rest := []) (n := 1) hE hG (m_X4_above l X h_o1 hw _) gX7_distanceAbove_X4_above rfl rfl rfl (by decide +kernel) ⟨Nat.le_of_ble_eq_true rfl, Nat.le_of_ble_eq_true rfl⟩ (kd_lt h_o1 (by decide)) (ce_4 h_o1) rfl rfl rfl hl.1 (Nat.le_of_ble_eq_true rfl) dX7_distanceAbove_2 ⟨Nat.zero_le _, Nat.zero_le _⟩) (fun r1 σ2 H locs hw hG => ?_)
  refine lv_i2l hx hb dX7_distanceAbove_5 rfl ?_
  refine lv_aload_n hx hb dX7_distanceAbove_6 rfl (lv_at hl 0 rfl) ?_
  refine lv_iload_n hx hb dX7_distanceAbove_7 rfl (lv_at hl 2 rfl) ?_
  refine g_calli hG (g_runV (rm := rm_X4_below) (As := [.int v2]) (rest := [.long (r1.toInt64)]) (n := 1) hE hG (m_X4_below l X h_o0 hw _) gX7_distanceAbove_X4_below rfl rfl rfl (by decide +kernel) ⟨Nat.le_of_ble_eq_true rfl, Nat.le_of_ble_eq_true rfl⟩ (kd_lt h_o0 (by decide)) (ce_4 h_o0) rfl rfl rfl hl.1 (Nat.le_of_ble_eq_true rfl) dX7_distanceAbove_8 ⟨Nat.zero_le _, Nat.zero_le _⟩) (fun r3 σ4 H locs hw hG => ?_)
  refine lv_i2l hx hb dX7_distanceAbove_11 rfl ?_
  refine lv_lmul hx hb dX7_distanceAbove_12 ?_
  refine lv_topl (fun x5 ex5 => ?_)
  have hw := hw x5 ex5
  refine lv_lstore_n (lv' := [(3, .long x5), (0, .ref (X.2.1 o0)), (1, .ref (X.2.1 o1)), (2, .int v2)]) hx hb dX7_distanceAbove_13 rfl hl (by decide) rfl (fun ls hl => ?_)
  refine lv_aload_n hx hb dX7_distanceAbove_14 rfl (lv_at hl 1 rfl) ?_
  refine lv_iload_n hx hb dX7_distanceAbove_15 rfl (lv_at hl 3 rfl) ?_
  refine g_calli hG (g_runV (rm := rm_X4_above) (As := [.int v2]) (rest := []) (n := 1) hE hG (m_X4_above l X h_o0 hw _) gX7_distanceAbove_X4_above rfl rfl rfl (by decide +kernel) ⟨Nat.le_of_ble_eq_true rfl, Nat.le_of_ble_eq_true rfl⟩ (kd_lt h_o0 (by decide)) (ce_4 h_o0) rfl rfl rfl hl.1 (Nat.le_of_ble_eq_true rfl) dX7_distanceAbove_16 ⟨Nat.zero_le _, Nat.zero_le _⟩) (fun r6 σ7 H locs hw hG => ?_)
  refine lv_i2l hx hb dX7_distanceAbove_19 rfl ?_
  refine lv_aload_n hx hb dX7_distanceAbove_20 rfl (lv_at hl 2 rfl) ?_
  refine lv_iload_n hx hb dX7_distanceAbove_21 rfl (lv_at hl 3 rfl) ?_
  refine g_calli hG (g_runV (rm := rm_X4_below) (As := [.int v2]) (rest := [.long (r6.toInt64)]) (n := 1) hE hG (m_X4_below l X h_o1 hw _) gX7_distanceAbove_X4_below rfl rfl rfl (by decide +kernel) ⟨Nat.le_of_ble_eq_true rfl, Nat.le_of_ble_eq_true rfl⟩ (kd_lt h_o1 (by decide)) (ce_4 h_o1) rfl rfl rfl hl.1 (Nat.le_of_ble_eq_true rfl) dX7_distanceAbove_22 ⟨Nat.zero_le _, Nat.zero_le _⟩) (fun r8 σ9 H locs hw hG => ?_)
  refine lv_i2l hx hb dX7_distanceAbove_25 rfl ?_
  refine lv_lmul hx hb dX7_distanceAbove_26 ?_
  refine lv_topl (fun x10 ex10 => ?_)
  have hw := hw x10 ex10
  refine lv_lstore (lv' := [(5, .long x10), (3, .long x5), (0, .ref (X.2.1 o0)), (1, .ref (X.2.1 o1)), (2, .int v2)]) hx hb dX7_distanceAbove_27 hl (by decide) rfl (fun ls hl => ?_)
  refine lv_lload_n hx hb dX7_distanceAbove_29 rfl (lv_at hl 1 rfl) ?_
  refine lv_lload hx hb dX7_distanceAbove_30 (lv_at hl 0 rfl) ?_
  refine lv_lsub hx hb dX7_distanceAbove_32 ?_
  exact g_lret hE hG hr hlk dX7_distanceAbove_33 hw

set_option maxHeartbeats 4000000 in
set_option maxRecDepth 100000 in
theorem m_X7_distanceBelow (l : Launch) (X : wX) {Q : Int64 → St → Prop} {o0 : Nat} {o1 : Nat} {v2 : Int32} {σ : St} (h_o0 : kcL.getD o0 999 = 4) (h_o1 : kcL.getD o1 999 = 4) (hw : wp_X7_distanceBelow Q o0 o1 v2 σ) : mL X kcL l yX7_distanceBelow wsX7_distanceBelow rm_X7_distanceBelow [.ref (X.2.1 o0), .ref (X.2.1 o1), .int v2] σ Q := by
  refine mL.of (cc := cX7_distanceBelow) (maxL := 3) (ret := (some .long)) (by decide +kernel) rfl (Nat.le_of_ble_eq_true rfl) ?_
  intro A p e s m args below meth c ls hE hr hlk hl hG
  have hx := hE.1.1
  have hb := hE.1.2.1
  unfold wp_X7_distanceBelow at hw
  have hl : lv_has ls 3 [(0, .ref (X.2.1 o0)), (1, .ref (X.2.1 o1)), (2, .int v2)] := hl
  refine lv_aload_n hx hb dX7_distanceBelow_0 rfl (lv_at hl 0 rfl) ?_
  refine lv_iload_n hx hb dX7_distanceBelow_1 rfl (lv_at hl 2 rfl) ?_
  refine g_calli hG (g_runV (rm := rm_X4_below) (As := [.int v2]) (rest := []) (n := 1) hE hG (m_X4_below l X h_o0 hw _) gX7_distanceBelow_X4_below rfl rfl rfl (by decide +kernel) ⟨Nat.le_of_ble_eq_true rfl, Nat.le_of_ble_eq_true rfl⟩ (kd_lt h_o0 (by decide)) (ce_4 h_o0) rfl rfl rfl hl.1 (Nat.le_of_ble_eq_true rfl) dX7_distanceBelow_2 ⟨Nat.zero_le _, Nat.zero_le _⟩) (fun r1 σ2 H locs hw hG => ?_)
  refine lv_i2l hx hb dX7_distanceBelow_5 rfl ?_
  refine lv_aload_n hx hb dX7_distanceBelow_6 rfl (lv_at hl 1 rfl) ?_
  refine lv_iload_n hx hb dX7_distanceBelow_7 rfl (lv_at hl 2 rfl) ?_
  refine g_calli hG (g_runV (rm := rm_X4_below) (As := [.int v2]) (rest := [.long (r1.toInt64)]) (n := 1) hE hG (m_X4_below l X h_o1 hw _) gX7_distanceBelow_X4_below rfl rfl rfl (by decide +kernel) ⟨Nat.le_of_ble_eq_true rfl, Nat.le_of_ble_eq_true rfl⟩ (kd_lt h_o1 (by decide)) (ce_4 h_o1) rfl rfl rfl hl.1 (Nat.le_of_ble_eq_true rfl) dX7_distanceBelow_8 ⟨Nat.zero_le _, Nat.zero_le _⟩) (fun r3 σ4 H locs hw hG => ?_)
  refine lv_i2l hx hb dX7_distanceBelow_11 rfl ?_
  refine lv_lmul hx hb dX7_distanceBelow_12 ?_
  exact g_lret hE hG hr hlk dX7_distanceBelow_13 hw

set_option maxHeartbeats 4000000 in
set_option maxRecDepth 100000 in
theorem m_X7_nearerDegree (l : Launch) (X : wX) {Q : Int32 → St → Prop} {o0 : Nat} {o1 : Nat} {v2 : Int32} {v3 : Int32} {σ : St} (h_o0 : kcL.getD o0 999 = 4) (h_o1 : kcL.getD o1 999 = 4) (hw : wp_X7_nearerDegree Q o0 o1 v2 v3 σ) : mI X kcL l yX7_nearerDegree wsX7_nearerDegree rm_X7_nearerDegree [.ref (X.2.1 o0), .ref (X.2.1 o1), .int v2, .int v3] σ Q := by
  refine mI.of (cc := cX7_nearerDegree) (maxL := 8) (ret := (some .int)) (by decide +kernel) rfl (Nat.le_of_ble_eq_true rfl) ?_
  intro A p e s m args below meth c ls hE hr hlk hl hG
  have hx := hE.1.1
  have hb := hE.1.2.1
  unfold wp_X7_nearerDegree at hw
  have hl : lv_has ls 8 [(0, .ref (X.2.1 o0)), (1, .ref (X.2.1 o1)), (2, .int v2), (3, .int v3)] := hl
  refine lv_aload_n hx hb dX7_nearerDegree_0 rfl (lv_at hl 0 rfl) ?_
  refine lv_aload_n hx hb dX7_nearerDegree_1 rfl (lv_at hl 1 rfl) ?_
  refine lv_iload_n hx hb dX7_nearerDegree_2 rfl (lv_at hl 2 rfl) ?_
  refine g_calll hG (g_runS (rm := rm_X7_distanceAbove) (As := [.ref (X.2.1 o0), .ref (X.2.1 o1), .int v2]) (rest := []) (n := 3) hE hG (m_X7_distanceAbove l X h_o0 h_o1 hw _) gX7_nearerDegree_X7_distanceAbove rfl rfl rfl (by decide +kernel) ⟨Nat.le_of_ble_eq_true rfl, Nat.le_of_ble_eq_true rfl⟩ rfl hl.1 (Nat.le_of_ble_eq_true rfl) dX7_nearerDegree_3 ⟨Nat.zero_le _, Nat.zero_le _⟩) (fun r1 σ2 H locs hw hG => ?_)
  refine lv_aload_n hx hb dX7_nearerDegree_6 rfl (lv_at hl 0 rfl) ?_
  refine lv_aload_n hx hb dX7_nearerDegree_7 rfl (lv_at hl 1 rfl) ?_
  refine lv_iload_n hx hb dX7_nearerDegree_8 rfl (lv_at hl 3 rfl) ?_
  refine g_calll hG (g_runS (rm := rm_X7_distanceBelow) (As := [.ref (X.2.1 o0), .ref (X.2.1 o1), .int v3]) (rest := [.long r1]) (n := 3) hE hG (m_X7_distanceBelow l X h_o0 h_o1 hw _) gX7_nearerDegree_X7_distanceBelow rfl rfl rfl (by decide +kernel) ⟨Nat.le_of_ble_eq_true rfl, Nat.le_of_ble_eq_true rfl⟩ rfl hl.1 (Nat.le_of_ble_eq_true rfl) dX7_nearerDegree_9 ⟨Nat.zero_le _, Nat.zero_le _⟩) (fun r3 σ4 H locs hw hG => ?_)
  refine lv_lmul hx hb dX7_nearerDegree_12 ?_
  refine lv_topl (fun x5 ex5 => ?_)
  have hw := hw x5 ex5
  refine lv_lstore (lv' := [(4, .long x5), (0, .ref (X.2.1 o0)), (1, .ref (X.2.1 o1)), (2, .int v2), (3, .int v3)]) hx hb dX7_nearerDegree_13 hl (by decide) rfl (fun ls hl => ?_)
  refine lv_aload_n hx hb dX7_nearerDegree_15 rfl (lv_at hl 1 rfl) ?_
  refine lv_aload_n hx hb dX7_nearerDegree_16 rfl (lv_at hl 2 rfl) ?_
  refine lv_iload_n hx hb dX7_nearerDegree_17 rfl (lv_at hl 4 rfl) ?_
  refine g_calll hG (g_runS (rm := rm_X7_distanceAbove) (As := [.ref (X.2.1 o0), .ref (X.2.1 o1), .int v3]) (rest := []) (n := 3) hE hG (m_X7_distanceAbove l X h_o0 h_o1 hw _) gX7_nearerDegree_X7_distanceAbove rfl rfl rfl (by decide +kernel) ⟨Nat.le_of_ble_eq_true rfl, Nat.le_of_ble_eq_true rfl⟩ rfl hl.1 (Nat.le_of_ble_eq_true rfl) dX7_nearerDegree_18 ⟨Nat.zero_le _, Nat.zero_le _⟩) (fun r6 σ7 H locs hw hG => ?_)
  refine lv_aload_n hx hb dX7_nearerDegree_21 rfl (lv_at hl 1 rfl) ?_
  refine lv_aload_n hx hb dX7_nearerDegree_22 rfl (lv_at hl 2 rfl) ?_
  refine lv_iload_n hx hb dX7_nearerDegree_23 rfl (lv_at hl 3 rfl) ?_
  refine g_calll hG (g_runS (rm := rm_X7_distanceBelow) (As := [.ref (X.2.1 o0), .ref (X.2.1 o1), .int v2]) (rest := [.long r6]) (n := 3) hE hG (m_X7_distanceBelow l X h_o0 h_o1 hw _) gX7_nearerDegree_X7_distanceBelow rfl rfl rfl (by decide +kernel) ⟨Nat.le_of_ble_eq_true rfl, Nat.le_of_ble_eq_true rfl⟩ rfl hl.1 (Nat.le_of_ble_eq_true rfl) dX7_nearerDegree_24 ⟨Nat.zero_le _, Nat.zero_le _⟩) (fun r8 σ9 H locs hw hG => ?_)
  refine lv_lmul hx hb dX7_nearerDegree_27 ?_
  refine lv_topl (fun x10 ex10 => ?_)
  have hw := hw x10 ex10
  refine lv_lstore (lv' := [(6, .long x10), (4, .long x5), (0, .ref (X.2.1 o0)), (1, .ref (X.2.1 o1)), (2, .int v2), (3, .int v3)]) hx hb dX7_nearerDegree_28 hl (by decide) rfl (fun ls hl => ?_)
  refine lv_lload hx hb dX7_nearerDegree_30 (lv_at hl 0 rfl) ?_
  refine lv_lload hx hb dX7_nearerDegree_32 (lv_at hl 1 rfl) ?_
  refine W.lcmp hx hb dX7_nearerDegree_34 ?_
  refine lv_if_ne (tgt := 44) hx hb dX7_nearerDegree_35 (by decide) (fun hc11 => ?_) (fun hc11 => ?_)
  · have hw := hw.1 hc11
    refine lv_lload hx hb dX7_nearerDegree_44 (lv_at hl 0 rfl) ?_
    refine lv_lload hx hb dX7_nearerDegree_46 (lv_at hl 1 rfl) ?_
    refine W.lcmp hx hb dX7_nearerDegree_48 ?_
    refine lv_if_ge (tgt := 56) hx hb dX7_nearerDegree_49 (by decide) (fun hc12 => ?_) (fun hc12 => ?_)
    · have hw := hw.1 hc12
      refine lv_iload_n hx hb dX7_nearerDegree_56 rfl (lv_at hl 4 rfl) ?_
      exact g_iret hE hG hr hlk dX7_nearerDegree_57 hw
    · have hw := hw.2 hc12
      refine lv_iload_n hx hb dX7_nearerDegree_52 rfl (lv_at hl 5 rfl) ?_
      refine lv_goto (tgt := 57) hx hb dX7_nearerDegree_53 (by decide) ?_
      exact g_iret hE hG hr hlk dX7_nearerDegree_57 hw
  · have hw := hw.2 hc11
    refine lv_iload_n hx hb dX7_nearerDegree_38 rfl (lv_at hl 4 rfl) ?_
    refine lv_iload_n hx hb dX7_nearerDegree_39 rfl (lv_at hl 5 rfl) ?_
    refine va_mmin hx hb (by rw [hl.1]; exact hE.1.2.2.1) hE.1.2.2.2.1 (hE.1.2.2.2.2 _ (by decide +kernel)) (hE.1.2.2.2.2 _ (by decide +kernel)) (hE.1.2.2.2.2 _ (by decide +kernel)) (hE.1.2.2.2.2 _ (by decide +kernel)) (Nat.le_of_ble_eq_true rfl) (Nat.le_of_ble_eq_true rfl) (Nat.zero_le _) (Nat.zero_le _) dX7_nearerDegree_40 ?_
    exact g_iret hE hG hr hlk dX7_nearerDegree_43 hw

set_option maxHeartbeats 4000000 in
set_option maxRecDepth 100000 in
theorem b_X7_nearestDegree_37 {p : Program} {l : Launch} {e : Env} {s : State} {m : MethodId} {args : Array Value} {below : List Frame} {meth : Method} {c : Code} {X : wX} {A : Nat → Prop} (hE : eV p m c cX7_nearestDegree 5 s args wsX7_nearestDegree RX7 X) (hr : meth.sig.returnType = (some .int)) (hlk : meth.locks = false) {Q : Int32 → St → Prop} {o1 : Nat} {o2 : Nat} (h_o1 : kcL.getD o1 999 = 4) (h_o2 : kcL.getD o2 999 = 4) : ∀ (n : Nat) (σ : St) (v3 : Int32) (v4 : Int32) (H : Heap) (locs : List Loc) (ls : Array Slot), wl_X7_nearestDegree_37 Q o1 o2 n σ v3 v4 → gW X kcL A s.heap σ H locs → lv_has ls 5 [(1, .ref (X.2.1 o1)), (2, .ref (X.2.1 o2)), (3, .int v3), (4, .int v4)] → W p l e rm_X7_nearestDegree s m args below meth c H locs 0 0 (zI X kcL below args s A Q) (F0 m 37 ls []) := by
  have hx := hE.1.1
  have hb := hE.1.2.1
  intro n
  induction n with
  | zero =>
    intro σ v3 v4 H locs ls hw
    exact False.elim hw
  | succ n ih =>
    intro σ v3 v4 H locs ls hw hG hl
    have hw : wB_X7_nearestDegree_37 Q (wl_X7_nearestDegree_37 Q o1 o2 n) o1 o2 σ v3 v4 := hw
    unfold wB_X7_nearestDegree_37 at hw
    refine lv_iload hx hb dX7_nearestDegree_37 (lv_at hl 3 rfl) ?_
    refine lv_aload_n hx hb dX7_nearestDegree_39 rfl (lv_at hl 1 rfl) ?_
    refine g_get (k := 2) hE hG (kd_lt h_o2 (by decide)) (ce_4 h_o2) rfl (by decide +kernel) (by decide) (by decide +kernel) rfl rfl dX7_nearestDegree_40 ?_
    refine lv_icmp_ge (tgt := 66) hx hb dX7_nearestDegree_43 (by decide) (fun hc2 => ?_) (fun hc2 => ?_)
    · have hw := hw.1 hc2
      refine lv_iload_n hx hb dX7_nearestDegree_66 rfl (lv_at hl 2 rfl) ?_
      exact g_iret hE hG hr hlk dX7_nearestDegree_67 hw
    · have hw := hw.2 hc2
      refine lv_aload_n hx hb dX7_nearestDegree_46 rfl (lv_at hl 0 rfl) ?_
      refine lv_aload_n hx hb dX7_nearestDegree_47 rfl (lv_at hl 1 rfl) ?_
      refine lv_iload_n hx hb dX7_nearestDegree_48 rfl (lv_at hl 2 rfl) ?_
      refine lv_aload_n hx hb dX7_nearestDegree_49 rfl (lv_at hl 1 rfl) ?_
      refine g_get (k := 0) hE hG (kd_lt h_o2 (by decide)) (ce_4 h_o2) rfl (by decide +kernel) (by decide) (by decide +kernel) rfl rfl dX7_nearestDegree_50 ?_
      refine lv_iload hx hb dX7_nearestDegree_53 (lv_at hl 3 rfl) ?_
      obtain ⟨hi3, hw⟩ := hw
      refine g_iald (n := 6) hE hG (kd_lt (kc_deg h_o2) (by decide)) (ce_int (kc_deg h_o2) (by decide) (by decide)) hi3 dX7_nearestDegree_55 ?_
      refine g_calli hG (g_runS (rm := rm_X7_nearerDegree) (As := [.ref (X.2.1 o1), .ref (X.2.1 o2), .int v3, .int (σ (o2 + 1) v4.toNatClampNeg)]) (rest := []) (n := 4) hE hG (m_X7_nearerDegree l X h_o1 h_o2 hw _) gX7_nearestDegree_X7_nearerDegree rfl rfl rfl (by decide +kernel) ⟨Nat.le_of_ble_eq_true rfl, Nat.le_of_ble_eq_true rfl⟩ rfl hl.1 (Nat.le_of_ble_eq_true rfl) dX7_nearestDegree_56 ⟨Nat.zero_le _, Nat.zero_le _⟩) (fun r4 σ5 H locs hw hG => ?_)
      refine lv_istore_n (lv' := [(3, .int r4), (1, .ref (X.2.1 o1)), (2, .ref (X.2.1 o2)), (4, .int v4)]) hx hb dX7_nearestDegree_59 rfl hl (by decide) rfl (fun ls hl => ?_)
      obtain ⟨x6, ex6⟩ : ∃ z : Int32, z = v4 + (1 : Int32) := ⟨_, rfl⟩
      have hw := hw x6 ex6
      refine lv_iinc (v := x6) (lv' := [(4, .int x6), (3, .int r4), (1, .ref (X.2.1 o1)), (2, .ref (X.2.1 o2))]) hx hb dX7_nearestDegree_60 hl (k := 3) rfl (by rw [ex6]; rfl) (by decide) rfl (fun ls hl => ?_)
      refine lv_goto (tgt := 37) hx hb dX7_nearestDegree_63 (by decide) ?_
      exact ih _ _ _ _ _ _ hw hG (lv_sub hl [2, 3, 1, 0] rfl)

set_option maxHeartbeats 4000000 in
set_option maxRecDepth 100000 in
theorem b_X7_nearestDegree_5 {p : Program} {l : Launch} {e : Env} {s : State} {m : MethodId} {args : Array Value} {below : List Frame} {meth : Method} {c : Code} {X : wX} {A : Nat → Prop} (hE : eV p m c cX7_nearestDegree 5 s args wsX7_nearestDegree RX7 X) (hr : meth.sig.returnType = (some .int)) (hlk : meth.locks = false) {Q : Int32 → St → Prop} {o1 : Nat} {o2 : Nat} (h_o1 : kcL.getD o1 999 = 4) (h_o2 : kcL.getD o2 999 = 4) : ∀ (n : Nat) (σ : St) (v3 : Int32) (v4 : Int32) (H : Heap) (locs : List Loc) (ls : Array Slot), wl_X7_nearestDegree_5 Q o1 o2 n σ v3 v4 → gW X kcL A s.heap σ H locs → lv_has ls 5 [(1, .ref (X.2.1 o1)), (2, .ref (X.2.1 o2)), (3, .int v3), (4, .int v4)] → W p l e rm_X7_nearestDegree s m args below meth c H locs 0 0 (zI X kcL below args s A Q) (F0 m 5 ls []) := by
  have hx := hE.1.1
  have hb := hE.1.2.1
  intro n
  induction n with
  | zero =>
    intro σ v3 v4 H locs ls hw
    exact False.elim hw
  | succ n ih =>
    intro σ v3 v4 H locs ls hw hG hl
    have hw : wB_X7_nearestDegree_5 Q (wl_X7_nearestDegree_5 Q o1 o2 n) o1 o2 σ v3 v4 := hw
    unfold wB_X7_nearestDegree_5 at hw
    refine lv_iload hx hb dX7_nearestDegree_5 (lv_at hl 3 rfl) ?_
    refine lv_aload_n hx hb dX7_nearestDegree_7 rfl (lv_at hl 0 rfl) ?_
    refine g_get (k := 2) hE hG (kd_lt h_o1 (by decide)) (ce_4 h_o1) rfl (by decide +kernel) (by decide) (by decide +kernel) rfl rfl dX7_nearestDegree_8 ?_
    refine lv_icmp_ge (tgt := 34) hx hb dX7_nearestDegree_11 (by decide) (fun hc1 => ?_) (fun hc1 => ?_)
    · have hw := hw.1 hc1
      refine lv_iconst (v := 0) hx hb dX7_nearestDegree_34 (by decide) ?_
      refine lv_istore (lv' := [(4, .int (0 : Int32)), (1, .ref (X.2.1 o1)), (2, .ref (X.2.1 o2)), (3, .int v3)]) hx hb dX7_nearestDegree_35 hl (by decide) rfl (fun ls hl => ?_)
      obtain ⟨n, hw⟩ := hw
      exact b_X7_nearestDegree_37 hE hr hlk h_o1 h_o2 n _ _ _ _ _ _ hw hG (lv_sub hl [1, 2, 3, 0] rfl)
    · have hw := hw.2 hc1
      refine lv_aload_n hx hb dX7_nearestDegree_14 rfl (lv_at hl 0 rfl) ?_
      refine lv_aload_n hx hb dX7_nearestDegree_15 rfl (lv_at hl 1 rfl) ?_
      refine lv_iload_n hx hb dX7_nearestDegree_16 rfl (lv_at hl 2 rfl) ?_
      refine lv_aload_n hx hb dX7_nearestDegree_17 rfl (lv_at hl 0 rfl) ?_
      refine g_get (k := 0) hE hG (kd_lt h_o1 (by decide)) (ce_4 h_o1) rfl (by decide +kernel) (by decide) (by decide +kernel) rfl rfl dX7_nearestDegree_18 ?_
      refine lv_iload hx hb dX7_nearestDegree_21 (lv_at hl 3 rfl) ?_
      obtain ⟨hi7, hw⟩ := hw
      refine g_iald (n := 6) hE hG (kd_lt (kc_deg h_o1) (by decide)) (ce_int (kc_deg h_o1) (by decide) (by decide)) hi7 dX7_nearestDegree_23 ?_
      refine g_calli hG (g_runS (rm := rm_X7_nearerDegree) (As := [.ref (X.2.1 o1), .ref (X.2.1 o2), .int v3, .int (σ (o1 + 1) v4.toNatClampNeg)]) (rest := []) (n := 4) hE hG (m_X7_nearerDegree l X h_o1 h_o2 hw _) gX7_nearestDegree_X7_nearerDegree rfl rfl rfl (by decide +kernel) ⟨Nat.le_of_ble_eq_true rfl, Nat.le_of_ble_eq_true rfl⟩ rfl hl.1 (Nat.le_of_ble_eq_true rfl) dX7_nearestDegree_24 ⟨Nat.zero_le _, Nat.zero_le _⟩) (fun r8 σ9 H locs hw hG => ?_)
      refine lv_istore_n (lv' := [(3, .int r8), (1, .ref (X.2.1 o1)), (2, .ref (X.2.1 o2)), (4, .int v4)]) hx hb dX7_nearestDegree_27 rfl hl (by decide) rfl (fun ls hl => ?_)
      obtain ⟨x10, ex10⟩ : ∃ z : Int32, z = v4 + (1 : Int32) := ⟨_, rfl⟩
      have hw := hw x10 ex10
      refine lv_iinc (v := x10) (lv' := [(4, .int x10), (3, .int r8), (1, .ref (X.2.1 o1)), (2, .ref (X.2.1 o2))]) hx hb dX7_nearestDegree_28 hl (k := 3) rfl (by rw [ex10]; rfl) (by decide) rfl (fun ls hl => ?_)
      refine lv_goto (tgt := 5) hx hb dX7_nearestDegree_31 (by decide) ?_
      exact ih _ _ _ _ _ _ hw hG (lv_sub hl [2, 3, 1, 0] rfl)

set_option maxHeartbeats 4000000 in
set_option maxRecDepth 100000 in
theorem m_X7_nearestDegree (l : Launch) (X : wX) {Q : Int32 → St → Prop} {o1 : Nat} {o2 : Nat} {σ : St} (h_o1 : kcL.getD o1 999 = 4) (h_o2 : kcL.getD o2 999 = 4) (hw : wp_X7_nearestDegree Q o1 o2 σ) : mI X kcL l yX7_nearestDegree wsX7_nearestDegree rm_X7_nearestDegree [.ref (X.2.1 41), .ref (X.2.1 o1), .ref (X.2.1 o2)] σ Q := by
  refine mI.of (cc := cX7_nearestDegree) (maxL := 5) (ret := (some .int)) (by decide +kernel) rfl (Nat.le_of_ble_eq_true rfl) ?_
  intro A p e s m args below meth c ls hE hr hlk hl hG
  have hx := hE.1.1
  have hb := hE.1.2.1
  unfold wp_X7_nearestDegree at hw
  have hl : lv_has ls 5 [(0, .ref (X.2.1 41)), (1, .ref (X.2.1 o1)), (2, .ref (X.2.1 o2))] := hl
  refine lv_iconst (v := 0) hx hb dX7_nearestDegree_0 (by decide) ?_
  refine lv_istore_n (lv' := [(3, .int (0 : Int32)), (0, .ref (X.2.1 41)), (1, .ref (X.2.1 o1)), (2, .ref (X.2.1 o2))]) hx hb dX7_nearestDegree_1 rfl hl (by decide) rfl (fun ls hl => ?_)
  refine lv_iconst (v := 0) hx hb dX7_nearestDegree_2 (by decide) ?_
  refine lv_istore (lv' := [(4, .int (0 : Int32)), (3, .int (0 : Int32)), (0, .ref (X.2.1 41)), (1, .ref (X.2.1 o1)), (2, .ref (X.2.1 o2))]) hx hb dX7_nearestDegree_3 hl (by decide) rfl (fun ls hl => ?_)
  obtain ⟨n, hw⟩ := hw
  exact b_X7_nearestDegree_5 hE hr hlk h_o1 h_o2 n _ _ _ _ _ _ hw hG (lv_sub hl [3, 4, 1, 0] rfl)

set_option maxHeartbeats 4000000 in
set_option maxRecDepth 100000 in
theorem m_X8_become (l : Launch) (X : wX) {Q : St → Prop} {o0 : Nat} {v1 : Int32} {v2 : Int32} {v3 : Int32} {v4 : Int32} {σ : St} (h_o0 : kcL.getD o0 999 = 8) (hw : wp_X8_become Q o0 v1 v2 v3 v4 σ) : mV X kcL l yX8_become wsX8_become rm_X8_become [.ref (X.2.1 o0), .int v1, .int v2, .int v3, .int v4] σ Q := by
  refine mV.of (cc := cX8_become) (maxL := 5) (ret := none) (by decide +kernel) rfl (Nat.le_of_ble_eq_true rfl) ?_
  intro A p e s m args below meth c ls hE hr hlk hl hG
  have hx := hE.1.1
  have hb := hE.1.2.1
  unfold wp_X8_become at hw
  have hl : lv_has ls 5 [(0, .ref (X.2.1 o0)), (1, .int v1), (2, .int v2), (3, .int v3), (4, .int v4)] := hl
  refine lv_aload_n hx hb dX8_become_0 rfl (lv_at hl 0 rfl) ?_
  refine lv_iload_n hx hb dX8_become_1 rfl (lv_at hl 1 rfl) ?_
  refine g_put (k := 0) (x := v1) (ty := .int) hE hG (kd_lt h_o0 (by decide)) (ce_8 h_o0) (by rw [ce_8 h_o0]; rfl) rfl (by decide +kernel) tyX8 tyX8_ok nmX8 (by decide) (by decide +kernel) rfl rfl (by decide +kernel) rfl rfl (Nat.le_of_ble_eq_true rfl) dX8_become_2 (fun σ1 H locs eσ1 hG => ?_)
  have hw := hw σ1 eσ1
  refine lv_aload_n hx hb dX8_become_5 rfl (lv_at hl 0 rfl) ?_
  refine lv_iload_n hx hb dX8_become_6 rfl (lv_at hl 2 rfl) ?_
  refine g_put (k := 1) (x := v2) (ty := .int) hE hG (kd_lt h_o0 (by decide)) (ce_8 h_o0) (by rw [ce_8 h_o0]; rfl) rfl (by decide +kernel) tyX8 tyX8_ok nmX8 (by decide) (by decide +kernel) rfl rfl (by decide +kernel) rfl rfl (Nat.le_of_ble_eq_true rfl) dX8_become_7 (fun σ2 H locs eσ2 hG => ?_)
  have hw := hw σ2 eσ2
  refine lv_aload_n hx hb dX8_become_10 rfl (lv_at hl 0 rfl) ?_
  refine lv_iload_n hx hb dX8_become_11 rfl (lv_at hl 3 rfl) ?_
  refine g_put (k := 2) (x := v3) (ty := .int) hE hG (kd_lt h_o0 (by decide)) (ce_8 h_o0) (by rw [ce_8 h_o0]; rfl) rfl (by decide +kernel) tyX8 tyX8_ok nmX8 (by decide) (by decide +kernel) rfl rfl (by decide +kernel) rfl rfl (Nat.le_of_ble_eq_true rfl) dX8_become_12 (fun σ3 H locs eσ3 hG => ?_)
  have hw := hw σ3 eσ3
  refine lv_aload_n hx hb dX8_become_15 rfl (lv_at hl 0 rfl) ?_
  refine lv_iload hx hb dX8_become_16 (lv_at hl 4 rfl) ?_
  refine g_put (k := 3) (x := v4) (ty := .int) hE hG (kd_lt h_o0 (by decide)) (ce_8 h_o0) (by rw [ce_8 h_o0]; rfl) rfl (by decide +kernel) tyX8 tyX8_ok nmX8 (by decide) (by decide +kernel) rfl rfl (by decide +kernel) rfl rfl (Nat.le_of_ble_eq_true rfl) dX8_become_18 (fun σ4 H locs eσ4 hG => ?_)
  have hw := hw σ4 eσ4
  exact g_vret hE hG hr hlk dX8_become_21 hw

set_option maxHeartbeats 4000000 in
set_option maxRecDepth 100000 in
theorem m_X9_isBetween (l : Launch) (X : wX) {Q : Int32 → St → Prop} {v0 : Int32} {v1 : Int32} {v2 : Int32} {σ : St} (hw : wp_X9_isBetween Q v0 v1 v2 σ) : mI X kcL l yX9_isBetween wsX9_isBetween rm_X9_isBetween [.int v0, .int v1, .int v2] σ Q := by
  refine mI.of (cc := cX9_isBetween) (maxL := 3) (ret := (some .boolean)) (by decide +kernel) rfl (Nat.le_of_ble_eq_true rfl) ?_
  intro A p e s m args below meth c ls hE hr hlk hl hG
  have hx := hE.1.1
  have hb := hE.1.2.1
  unfold wp_X9_isBetween at hw
  have hl : lv_has ls 3 [(0, .int v0), (1, .int v1), (2, .int v2)] := hl
  refine lv_iload_n hx hb dX9_isBetween_0 rfl (lv_at hl 0 rfl) ?_
  refine lv_iload_n hx hb dX9_isBetween_1 rfl (lv_at hl 1 rfl) ?_
  refine lv_icmp_lt (tgt := 14) hx hb dX9_isBetween_2 (by decide) (fun hc1 => ?_) (fun hc1 => ?_)
  · have hw := hw.1 hc1
    refine lv_iconst (v := 0) hx hb dX9_isBetween_14 (by decide) ?_
    exact g_zret hE hG hr hlk dX9_isBetween_15 (by decide) hw
  · have hw := hw.2 hc1
    refine lv_iload_n hx hb dX9_isBetween_5 rfl (lv_at hl 0 rfl) ?_
    refine lv_iload_n hx hb dX9_isBetween_6 rfl (lv_at hl 2 rfl) ?_
    refine lv_icmp_gt (tgt := 14) hx hb dX9_isBetween_7 (by decide) (fun hc2 => ?_) (fun hc2 => ?_)
    · have hw := hw.1 hc2
      refine lv_iconst (v := 0) hx hb dX9_isBetween_14 (by decide) ?_
      exact g_zret hE hG hr hlk dX9_isBetween_15 (by decide) hw
    · have hw := hw.2 hc2
      refine lv_iconst (v := 1) hx hb dX9_isBetween_10 (by decide) ?_
      refine lv_goto (tgt := 15) hx hb dX9_isBetween_11 (by decide) ?_
      exact g_zret hE hG hr hlk dX9_isBetween_15 (by decide) hw

set_option maxHeartbeats 4000000 in
set_option maxRecDepth 100000 in
theorem m_X9_isSection (l : Launch) (X : wX) {Q : Int32 → St → Prop} {v0 : Int32} {σ : St} (hw : wp_X9_isSection Q v0 σ) : mI X kcL l yX9_isSection wsX9_isSection rm_X9_isSection [.int v0] σ Q := by
  refine mI.of (cc := cX9_isSection) (maxL := 1) (ret := (some .boolean)) (by decide +kernel) rfl (Nat.le_of_ble_eq_true rfl) ?_
  intro A p e s m args below meth c ls hE hr hlk hl hG
  have hx := hE.1.1
  have hb := hE.1.2.1
  unfold wp_X9_isSection at hw
  have hl : lv_has ls 1 [(0, .int v0)] := hl
  refine lv_iload_n hx hb dX9_isSection_0 rfl (lv_at hl 0 rfl) ?_
  refine lv_iconst (v := 0) hx hb dX9_isSection_1 (by decide) ?_
  refine lv_iconst (v := 5) hx hb dX9_isSection_2 (by decide) ?_
  refine g_calli hG (g_runS (rm := rm_X9_isBetween) (As := [.int v0, .int (0 : Int32), .int (5 : Int32)]) (rest := []) (n := 3) hE hG (m_X9_isBetween l X hw _) gX9_isSection_X9_isBetween rfl rfl rfl (by decide +kernel) ⟨Nat.le_of_ble_eq_true rfl, Nat.le_of_ble_eq_true rfl⟩ rfl hl.1 (Nat.le_of_ble_eq_true rfl) dX9_isSection_3 ⟨Nat.zero_le _, Nat.zero_le _⟩) (fun r1 σ2 H locs hw hG => ?_)
  exact g_zret hE hG hr hlk dX9_isSection_6 hw.1 hw.2

set_option maxHeartbeats 4000000 in
set_option maxRecDepth 100000 in
theorem m_X9_isAct (l : Launch) (X : wX) {Q : Int32 → St → Prop} {v0 : Int32} {σ : St} (hw : wp_X9_isAct Q v0 σ) : mI X kcL l yX9_isAct wsX9_isAct rm_X9_isAct [.int v0] σ Q := by
  refine mI.of (cc := cX9_isAct) (maxL := 1) (ret := (some .boolean)) (by decide +kernel) rfl (Nat.le_of_ble_eq_true rfl) ?_
  intro A p e s m args below meth c ls hE hr hlk hl hG
  have hx := hE.1.1
  have hb := hE.1.2.1
  unfold wp_X9_isAct at hw
  have hl : lv_has ls 1 [(0, .int v0)] := hl
  refine lv_iload_n hx hb dX9_isAct_0 rfl (lv_at hl 0 rfl) ?_
  refine lv_iconst (v := 0) hx hb dX9_isAct_1 (by decide) ?_
  refine lv_bipush (v := (7)) hx hb dX9_isAct_2 (by decide) ?_
  refine g_calli hG (g_runS (rm := rm_X9_isBetween) (As := [.int v0, .int (0 : Int32), .int (7 : Int32)]) (rest := []) (n := 3) hE hG (m_X9_isBetween l X hw _) gX9_isAct_X9_isBetween rfl rfl rfl (by decide +kernel) ⟨Nat.le_of_ble_eq_true rfl, Nat.le_of_ble_eq_true rfl⟩ rfl hl.1 (Nat.le_of_ble_eq_true rfl) dX9_isAct_4 ⟨Nat.zero_le _, Nat.zero_le _⟩) (fun r1 σ2 H locs hw hG => ?_)
  exact g_zret hE hG hr hlk dX9_isAct_7 hw.1 hw.2

set_option maxHeartbeats 4000000 in
set_option maxRecDepth 100000 in
theorem m_X9_isDegree (l : Launch) (X : wX) {Q : Int32 → St → Prop} {v0 : Int32} {σ : St} (hw : wp_X9_isDegree Q v0 σ) : mI X kcL l yX9_isDegree wsX9_isDegree rm_X9_isDegree [.int v0] σ Q := by
  refine mI.of (cc := cX9_isDegree) (maxL := 1) (ret := (some .boolean)) (by decide +kernel) rfl (Nat.le_of_ble_eq_true rfl) ?_
  intro A p e s m args below meth c ls hE hr hlk hl hG
  have hx := hE.1.1
  have hb := hE.1.2.1
  unfold wp_X9_isDegree at hw
  have hl : lv_has ls 1 [(0, .int v0)] := hl
  refine lv_iload_n hx hb dX9_isDegree_0 rfl (lv_at hl 0 rfl) ?_
  refine lv_iconst (v := 0) hx hb dX9_isDegree_1 (by decide) ?_
  refine lv_sipush (v := (359)) hx hb dX9_isDegree_2 (by decide) ?_
  refine g_calli hG (g_runS (rm := rm_X9_isBetween) (As := [.int v0, .int (0 : Int32), .int (359 : Int32)]) (rest := []) (n := 3) hE hG (m_X9_isBetween l X hw _) gX9_isDegree_X9_isBetween rfl rfl rfl (by decide +kernel) ⟨Nat.le_of_ble_eq_true rfl, Nat.le_of_ble_eq_true rfl⟩ rfl hl.1 (Nat.le_of_ble_eq_true rfl) dX9_isDegree_5 ⟨Nat.zero_le _, Nat.zero_le _⟩) (fun r1 σ2 H locs hw hG => ?_)
  exact g_zret hE hG hr hlk dX9_isDegree_8 hw.1 hw.2

set_option maxHeartbeats 4000000 in
set_option maxRecDepth 100000 in
theorem m_X9_isSetting (l : Launch) (X : wX) {Q : Int32 → St → Prop} {v0 : Int32} {v1 : Int32} {v2 : Int32} {v3 : Int32} {σ : St} (hw : wp_X9_isSetting Q v0 v1 v2 v3 σ) : mI X kcL l yX9_isSetting wsX9_isSetting rm_X9_isSetting [.int v0, .int v1, .int v2, .int v3] σ Q := by
  refine mI.of (cc := cX9_isSetting) (maxL := 4) (ret := (some .boolean)) (by decide +kernel) rfl (Nat.le_of_ble_eq_true rfl) ?_
  intro A p e s m args below meth c ls hE hr hlk hl hG
  have hx := hE.1.1
  have hb := hE.1.2.1
  unfold wp_X9_isSetting at hw
  have hl : lv_has ls 4 [(0, .int v0), (1, .int v1), (2, .int v2), (3, .int v3)] := hl
  refine lv_iload_n hx hb dX9_isSetting_0 rfl (lv_at hl 0 rfl) ?_
  refine g_calli hG (g_runS (rm := rm_X9_isSection) (As := [.int v0]) (rest := []) (n := 1) hE hG (m_X9_isSection l X hw _) gX9_isSetting_X9_isSection rfl rfl rfl (by decide +kernel) ⟨Nat.le_of_ble_eq_true rfl, Nat.le_of_ble_eq_true rfl⟩ rfl hl.1 (Nat.le_of_ble_eq_true rfl) dX9_isSetting_1 ⟨Nat.zero_le _, Nat.zero_le _⟩) (fun r1 σ2 H locs hw hG => ?_)
  refine lv_if_eq (tgt := 37) hx hb dX9_isSetting_4 (by decide) (fun hc3 => ?_) (fun hc3 => ?_)
  · have hw := hw.1 hc3
    refine lv_iconst (v := 0) hx hb dX9_isSetting_37 (by decide) ?_
    exact g_zret hE hG hr hlk dX9_isSetting_38 (by decide) hw
  · have hw := hw.2 hc3
    refine lv_iload_n hx hb dX9_isSetting_7 rfl (lv_at hl 1 rfl) ?_
    refine g_calli hG (g_runS (rm := rm_X9_isAct) (As := [.int v1]) (rest := []) (n := 1) hE hG (m_X9_isAct l X hw _) gX9_isSetting_X9_isAct rfl rfl rfl (by decide +kernel) ⟨Nat.le_of_ble_eq_true rfl, Nat.le_of_ble_eq_true rfl⟩ rfl hl.1 (Nat.le_of_ble_eq_true rfl) dX9_isSetting_8 ⟨Nat.zero_le _, Nat.zero_le _⟩) (fun r4 σ5 H locs hw hG => ?_)
    refine lv_if_eq (tgt := 37) hx hb dX9_isSetting_11 (by decide) (fun hc6 => ?_) (fun hc6 => ?_)
    · have hw := hw.1 hc6
      refine lv_iconst (v := 0) hx hb dX9_isSetting_37 (by decide) ?_
      exact g_zret hE hG hr hlk dX9_isSetting_38 (by decide) hw
    · have hw := hw.2 hc6
      refine lv_iload_n hx hb dX9_isSetting_14 rfl (lv_at hl 2 rfl) ?_
      refine g_calli hG (g_runS (rm := rm_X9_isDegree) (As := [.int v2]) (rest := []) (n := 1) hE hG (m_X9_isDegree l X hw _) gX9_isSetting_X9_isDegree rfl rfl rfl (by decide +kernel) ⟨Nat.le_of_ble_eq_true rfl, Nat.le_of_ble_eq_true rfl⟩ rfl hl.1 (Nat.le_of_ble_eq_true rfl) dX9_isSetting_15 ⟨Nat.zero_le _, Nat.zero_le _⟩) (fun r7 σ8 H locs hw hG => ?_)
      refine lv_if_eq (tgt := 37) hx hb dX9_isSetting_18 (by decide) (fun hc9 => ?_) (fun hc9 => ?_)
      · have hw := hw.1 hc9
        refine lv_iconst (v := 0) hx hb dX9_isSetting_37 (by decide) ?_
        exact g_zret hE hG hr hlk dX9_isSetting_38 (by decide) hw
      · have hw := hw.2 hc9
        refine lv_iload_n hx hb dX9_isSetting_21 rfl (lv_at hl 3 rfl) ?_
        refine g_calli hG (g_runS (rm := rm_X9_isDegree) (As := [.int v3]) (rest := []) (n := 1) hE hG (m_X9_isDegree l X hw _) gX9_isSetting_X9_isDegree rfl rfl rfl (by decide +kernel) ⟨Nat.le_of_ble_eq_true rfl, Nat.le_of_ble_eq_true rfl⟩ rfl hl.1 (Nat.le_of_ble_eq_true rfl) dX9_isSetting_22 ⟨Nat.zero_le _, Nat.zero_le _⟩) (fun r10 σ11 H locs hw hG => ?_)
        refine lv_if_eq (tgt := 37) hx hb dX9_isSetting_25 (by decide) (fun hc12 => ?_) (fun hc12 => ?_)
        · have hw := hw.1 hc12
          refine lv_iconst (v := 0) hx hb dX9_isSetting_37 (by decide) ?_
          exact g_zret hE hG hr hlk dX9_isSetting_38 (by decide) hw
        · have hw := hw.2 hc12
          refine lv_iload_n hx hb dX9_isSetting_28 rfl (lv_at hl 2 rfl) ?_
          refine lv_iload_n hx hb dX9_isSetting_29 rfl (lv_at hl 3 rfl) ?_
          refine lv_icmp_eq (tgt := 37) hx hb dX9_isSetting_30 (by decide) (fun hc13 => ?_) (fun hc13 => ?_)
          · have hw := hw.1 hc13
            refine lv_iconst (v := 0) hx hb dX9_isSetting_37 (by decide) ?_
            exact g_zret hE hG hr hlk dX9_isSetting_38 (by decide) hw
          · have hw := hw.2 hc13
            refine lv_iconst (v := 1) hx hb dX9_isSetting_33 (by decide) ?_
            refine lv_goto (tgt := 38) hx hb dX9_isSetting_34 (by decide) ?_
            exact g_zret hE hG hr hlk dX9_isSetting_38 (by decide) hw

set_option maxHeartbeats 4000000 in
set_option maxRecDepth 100000 in
theorem m_X9_set (l : Launch) (X : wX) {Q : Int32 → St → Prop} {v1 : Int32} {v2 : Int32} {v3 : Int32} {v4 : Int32} {σ : St} (hw : wp_X9_set Q v1 v2 v3 v4 σ) : mI X kcL l yX9_set wsX9_set rm_X9_set [.ref (X.2.1 0), .int v1, .int v2, .int v3, .int v4] σ Q := by
  refine mI.of (cc := cX9_set) (maxL := 6) (ret := (some .int)) (by decide +kernel) rfl (Nat.le_of_ble_eq_true rfl) ?_
  intro A p e s m args below meth c ls hE hr hlk hl hG
  have hx := hE.1.1
  have hb := hE.1.2.1
  unfold wp_X9_set at hw
  have hl : lv_has ls 6 [(0, .ref (X.2.1 0)), (1, .int v1), (2, .int v2), (3, .int v3), (4, .int v4)] := hl
  refine lv_iload_n hx hb dX9_set_0 rfl (lv_at hl 1 rfl) ?_
  refine lv_iload_n hx hb dX9_set_1 rfl (lv_at hl 2 rfl) ?_
  refine lv_iload_n hx hb dX9_set_2 rfl (lv_at hl 3 rfl) ?_
  refine lv_iload hx hb dX9_set_3 (lv_at hl 4 rfl) ?_
  refine g_calli hG (g_runS (rm := rm_X9_isSetting) (As := [.int v1, .int v2, .int v3, .int v4]) (rest := []) (n := 4) hE hG (m_X9_isSetting l X hw _) gX9_set_X9_isSetting rfl rfl rfl (by decide +kernel) ⟨Nat.le_of_ble_eq_true rfl, Nat.le_of_ble_eq_true rfl⟩ rfl hl.1 (Nat.le_of_ble_eq_true rfl) dX9_set_5 ⟨Nat.zero_le _, Nat.zero_le _⟩) (fun r1 σ2 H locs hw hG => ?_)
  refine lv_if_ne (tgt := 13) hx hb dX9_set_8 (by decide) (fun hc3 => ?_) (fun hc3 => ?_)
  · have hw := hw.1 hc3
    refine lv_aload_n hx hb dX9_set_13 rfl (lv_at hl 0 rfl) ?_
    refine g_get (k := 0) hE hG (kd_lt kc0 (by decide)) (ce_9 kc0) rfl (by decide +kernel) (by decide) (by decide +kernel) rfl rfl dX9_set_14 ?_
    refine lv_iload_n hx hb dX9_set_17 rfl (lv_at hl 1 rfl) ?_
    refine lv_iload_n hx hb dX9_set_18 rfl (lv_at hl 2 rfl) ?_
    refine lv_iload_n hx hb dX9_set_19 rfl (lv_at hl 3 rfl) ?_
    refine lv_iload hx hb dX9_set_20 (lv_at hl 4 rfl) ?_
    refine g_calli hG (g_runV (rm := rm_X3_brokenIf) (As := [.int v1, .int v2, .int v3, .int v4]) (rest := []) (n := 4) hE hG (m_X3_brokenIf l X hw _) gX9_set_X3_brokenIf rfl rfl rfl (by decide +kernel) ⟨Nat.le_of_ble_eq_true rfl, Nat.le_of_ble_eq_true rfl⟩ (kd_lt kc1 (by decide)) (ce_3 kc1) rfl rfl rfl hl.1 (Nat.le_of_ble_eq_true rfl) dX9_set_22 ⟨Nat.zero_le _, Nat.zero_le _⟩) (fun r4 σ5 H locs hw hG => ?_)
    refine lv_istore (lv' := [(5, .int r4), (0, .ref (X.2.1 0)), (1, .int v1), (2, .int v2), (3, .int v3), (4, .int v4)]) hx hb dX9_set_25 hl (by decide) rfl (fun ls hl => ?_)
    refine lv_iload hx hb dX9_set_27 (lv_at hl 0 rfl) ?_
    refine lv_iconst (v := (-1)) hx hb dX9_set_29 (by decide) ?_
    refine lv_icmp_eq (tgt := 39) hx hb dX9_set_30 (by decide) (fun hc6 => ?_) (fun hc6 => ?_)
    · have hw := hw.1 hc6
      refine lv_aload_n hx hb dX9_set_39 rfl (lv_at hl 1 rfl) ?_
      refine g_get (k := 0) hE hG (kd_lt kc0 (by decide)) (ce_9 kc0) rfl (by decide +kernel) (by decide) (by decide +kernel) rfl rfl dX9_set_40 ?_
      refine g_get (k := 0) hE hG (kd_lt kc1 (by decide)) (ce_3 kc1) rfl (by decide +kernel) (by decide) (by decide +kernel) rfl rfl dX9_set_43 ?_
      refine lv_iload_n hx hb dX9_set_46 rfl (lv_at hl 2 rfl) ?_
      obtain ⟨hi7, hw⟩ := hw
      refine g_aald (q := (4 + 3 * v1.toNatClampNeg)) (t0 := 2) hE hG (kd_lt kc2 (by decide)) (ce_300 kc2) rfl hi7 rfl dX9_set_47 ?_
      refine lv_iload_n hx hb dX9_set_48 rfl (lv_at hl 3 rfl) ?_
      refine lv_iload_n hx hb dX9_set_49 rfl (lv_at hl 4 rfl) ?_
      refine lv_iload hx hb dX9_set_50 (lv_at hl 5 rfl) ?_
      refine g_callv hG (g_runV (rm := rm_X2_change) (As := [.int v2, .int v3, .int v4]) (rest := []) (n := 3) hE hG (m_X2_change l X (kc_rows hi7) hw _) gX9_set_X2_change rfl rfl rfl (by decide +kernel) ⟨Nat.le_of_ble_eq_true rfl, Nat.le_of_ble_eq_true rfl⟩ (kd_lt (kc_rows hi7) (by decide)) (ce_2 (kc_rows hi7)) rfl rfl rfl hl.1 (Nat.le_of_ble_eq_true rfl) dX9_set_52 ⟨Nat.zero_le _, Nat.zero_le _⟩) (fun σ9 H locs hw hG => ?_)
      refine lv_iconst (v := 1) hx hb dX9_set_55 (by decide) ?_
      exact g_iret hE hG hr hlk dX9_set_56 hw
    · have hw := hw.2 hc6
      refine lv_bipush (v := (-100)) hx hb dX9_set_33 (by decide) ?_
      refine lv_iload hx hb dX9_set_35 (lv_at hl 0 rfl) ?_
      refine lv_isub hx hb dX9_set_37 ?_
      exact g_iret hE hG hr hlk dX9_set_38 hw
  · have hw := hw.2 hc3
    refine lv_iconst (v := (-1)) hx hb dX9_set_11 (by decide) ?_
    exact g_iret hE hG hr hlk dX9_set_12 hw

set_option maxHeartbeats 4000000 in
set_option maxRecDepth 100000 in
theorem m_X9_turn (l : Launch) (X : wX) {Q : Int32 → St → Prop} {v1 : Int32} {v2 : Int32} {σ : St} (hw : wp_X9_turn Q v1 v2 σ) : mI X kcL l yX9_turn wsX9_turn rm_X9_turn [.ref (X.2.1 0), .int v1, .int v2] σ Q := by
  refine mI.of (cc := cX9_turn) (maxL := 3) (ret := (some .int)) (by decide +kernel) rfl (Nat.le_of_ble_eq_true rfl) ?_
  intro A p e s m args below meth c ls hE hr hlk hl hG
  have hx := hE.1.1
  have hb := hE.1.2.1
  unfold wp_X9_turn at hw
  have hl : lv_has ls 3 [(0, .ref (X.2.1 0)), (1, .int v1), (2, .int v2)] := hl
  refine lv_iload_n hx hb dX9_turn_0 rfl (lv_at hl 1 rfl) ?_
  refine g_calli hG (g_runS (rm := rm_X9_isSection) (As := [.int v1]) (rest := []) (n := 1) hE hG (m_X9_isSection l X hw _) gX9_turn_X9_isSection rfl rfl rfl (by decide +kernel) ⟨Nat.le_of_ble_eq_true rfl, Nat.le_of_ble_eq_true rfl⟩ rfl hl.1 (Nat.le_of_ble_eq_true rfl) dX9_turn_1 ⟨Nat.zero_le _, Nat.zero_le _⟩) (fun r1 σ2 H locs hw hG => ?_)
  refine lv_if_eq (tgt := 20) hx hb dX9_turn_4 (by decide) (fun hc3 => ?_) (fun hc3 => ?_)
  · have hw := hw.1 hc3
    refine lv_iconst (v := (-1)) hx hb dX9_turn_20 (by decide) ?_
    exact g_iret hE hG hr hlk dX9_turn_21 hw
  · have hw := hw.2 hc3
    refine lv_iload_n hx hb dX9_turn_7 rfl (lv_at hl 2 rfl) ?_
    refine lv_sipush (v := (-359)) hx hb dX9_turn_8 (by decide) ?_
    refine lv_sipush (v := (359)) hx hb dX9_turn_11 (by decide) ?_
    refine g_calli hG (g_runS (rm := rm_X9_isBetween) (As := [.int v2, .int (-359 : Int32), .int (359 : Int32)]) (rest := []) (n := 3) hE hG (m_X9_isBetween l X hw _) gX9_turn_X9_isBetween rfl rfl rfl (by decide +kernel) ⟨Nat.le_of_ble_eq_true rfl, Nat.le_of_ble_eq_true rfl⟩ rfl hl.1 (Nat.le_of_ble_eq_true rfl) dX9_turn_14 ⟨Nat.zero_le _, Nat.zero_le _⟩) (fun r4 σ5 H locs hw hG => ?_)
    refine lv_if_ne (tgt := 22) hx hb dX9_turn_17 (by decide) (fun hc6 => ?_) (fun hc6 => ?_)
    · have hw := hw.1 hc6
      refine lv_aload_n hx hb dX9_turn_22 rfl (lv_at hl 0 rfl) ?_
      refine g_get (k := 0) hE hG (kd_lt kc0 (by decide)) (ce_9 kc0) rfl (by decide +kernel) (by decide) (by decide +kernel) rfl rfl dX9_turn_23 ?_
      refine g_get (k := 0) hE hG (kd_lt kc1 (by decide)) (ce_3 kc1) rfl (by decide +kernel) (by decide) (by decide +kernel) rfl rfl dX9_turn_26 ?_
      refine lv_iload_n hx hb dX9_turn_29 rfl (lv_at hl 1 rfl) ?_
      obtain ⟨hi7, hw⟩ := hw
      refine g_aald (q := (4 + 3 * v1.toNatClampNeg)) (t0 := 2) hE hG (kd_lt kc2 (by decide)) (ce_300 kc2) rfl hi7 rfl dX9_turn_30 ?_
      refine lv_iload_n hx hb dX9_turn_31 rfl (lv_at hl 2 rfl) ?_
      refine g_callv hG (g_runV (rm := rm_X2_shift) (As := [.int v2]) (rest := []) (n := 1) hE hG (m_X2_shift l X (kc_rows hi7) hw _) gX9_turn_X2_shift rfl rfl rfl (by decide +kernel) ⟨Nat.le_of_ble_eq_true rfl, Nat.le_of_ble_eq_true rfl⟩ (kd_lt (kc_rows hi7) (by decide)) (ce_2 (kc_rows hi7)) rfl rfl rfl hl.1 (Nat.le_of_ble_eq_true rfl) dX9_turn_32 ⟨Nat.zero_le _, Nat.zero_le _⟩) (fun σ9 H locs hw hG => ?_)
      refine lv_iconst (v := 1) hx hb dX9_turn_35 (by decide) ?_
      exact g_iret hE hG hr hlk dX9_turn_36 hw
    · have hw := hw.2 hc6
      refine lv_iconst (v := (-1)) hx hb dX9_turn_20 (by decide) ?_
      exact g_iret hE hG hr hlk dX9_turn_21 hw

set_option maxHeartbeats 4000000 in
set_option maxRecDepth 100000 in
theorem m_X9_copy (l : Launch) (X : wX) {Q : Int32 → St → Prop} {v1 : Int32} {v2 : Int32} {σ : St} (hw : wp_X9_copy Q v1 v2 σ) : mI X kcL l yX9_copy wsX9_copy rm_X9_copy [.ref (X.2.1 0), .int v1, .int v2] σ Q := by
  refine mI.of (cc := cX9_copy) (maxL := 3) (ret := (some .int)) (by decide +kernel) rfl (Nat.le_of_ble_eq_true rfl) ?_
  intro A p e s m args below meth c ls hE hr hlk hl hG
  have hx := hE.1.1
  have hb := hE.1.2.1
  unfold wp_X9_copy at hw
  have hl : lv_has ls 3 [(0, .ref (X.2.1 0)), (1, .int v1), (2, .int v2)] := hl
  refine lv_iload_n hx hb dX9_copy_0 rfl (lv_at hl 1 rfl) ?_
  refine g_calli hG (g_runS (rm := rm_X9_isSection) (As := [.int v1]) (rest := []) (n := 1) hE hG (m_X9_isSection l X hw _) gX9_copy_X9_isSection rfl rfl rfl (by decide +kernel) ⟨Nat.le_of_ble_eq_true rfl, Nat.le_of_ble_eq_true rfl⟩ rfl hl.1 (Nat.le_of_ble_eq_true rfl) dX9_copy_1 ⟨Nat.zero_le _, Nat.zero_le _⟩) (fun r1 σ2 H locs hw hG => ?_)
  refine lv_if_eq (tgt := 14) hx hb dX9_copy_4 (by decide) (fun hc3 => ?_) (fun hc3 => ?_)
  · have hw := hw.1 hc3
    refine lv_iconst (v := (-1)) hx hb dX9_copy_14 (by decide) ?_
    exact g_iret hE hG hr hlk dX9_copy_15 hw
  · have hw := hw.2 hc3
    refine lv_iload_n hx hb dX9_copy_7 rfl (lv_at hl 2 rfl) ?_
    refine g_calli hG (g_runS (rm := rm_X9_isSection) (As := [.int v2]) (rest := []) (n := 1) hE hG (m_X9_isSection l X hw _) gX9_copy_X9_isSection rfl rfl rfl (by decide +kernel) ⟨Nat.le_of_ble_eq_true rfl, Nat.le_of_ble_eq_true rfl⟩ rfl hl.1 (Nat.le_of_ble_eq_true rfl) dX9_copy_8 ⟨Nat.zero_le _, Nat.zero_le _⟩) (fun r4 σ5 H locs hw hG => ?_)
    refine lv_if_ne (tgt := 16) hx hb dX9_copy_11 (by decide) (fun hc6 => ?_) (fun hc6 => ?_)
    · have hw := hw.1 hc6
      refine lv_aload_n hx hb dX9_copy_16 rfl (lv_at hl 0 rfl) ?_
      refine g_get (k := 0) hE hG (kd_lt kc0 (by decide)) (ce_9 kc0) rfl (by decide +kernel) (by decide) (by decide +kernel) rfl rfl dX9_copy_17 ?_
      refine g_get (k := 0) hE hG (kd_lt kc1 (by decide)) (ce_3 kc1) rfl (by decide +kernel) (by decide) (by decide +kernel) rfl rfl dX9_copy_20 ?_
      refine lv_iload_n hx hb dX9_copy_23 rfl (lv_at hl 1 rfl) ?_
      obtain ⟨hi7, hw⟩ := hw
      refine g_aald (q := (4 + 3 * v1.toNatClampNeg)) (t0 := 2) hE hG (kd_lt kc2 (by decide)) (ce_300 kc2) rfl hi7 rfl dX9_copy_24 ?_
      refine lv_aload_n hx hb dX9_copy_25 rfl (lv_at hl 0 rfl) ?_
      refine g_get (k := 0) hE hG (kd_lt kc0 (by decide)) (ce_9 kc0) rfl (by decide +kernel) (by decide) (by decide +kernel) rfl rfl dX9_copy_26 ?_
      refine g_get (k := 0) hE hG (kd_lt kc1 (by decide)) (ce_3 kc1) rfl (by decide +kernel) (by decide) (by decide +kernel) rfl rfl dX9_copy_29 ?_
      refine lv_iload_n hx hb dX9_copy_32 rfl (lv_at hl 2 rfl) ?_
      obtain ⟨hi8, hw⟩ := hw
      refine g_aald (q := (4 + 3 * v2.toNatClampNeg)) (t0 := 2) hE hG (kd_lt kc2 (by decide)) (ce_300 kc2) rfl hi8 rfl dX9_copy_33 ?_
      refine g_callv hG (g_runV (rm := rm_X2_become) (As := [.ref (X.2.1 (4 + 3 * v2.toNatClampNeg))]) (rest := []) (n := 1) hE hG (m_X2_become l X (kc_rows hi7) (kc_rows hi8) hw _) gX9_copy_X2_become rfl rfl rfl (by decide +kernel) ⟨Nat.le_of_ble_eq_true rfl, Nat.le_of_ble_eq_true rfl⟩ (kd_lt (kc_rows hi7) (by decide)) (ce_2 (kc_rows hi7)) rfl rfl rfl hl.1 (Nat.le_of_ble_eq_true rfl) dX9_copy_34 ⟨Nat.zero_le _, Nat.zero_le _⟩) (fun σ10 H locs hw hG => ?_)
      refine lv_iconst (v := 1) hx hb dX9_copy_37 (by decide) ?_
      exact g_iret hE hG hr hlk dX9_copy_38 hw
    · have hw := hw.2 hc6
      refine lv_iconst (v := (-1)) hx hb dX9_copy_14 (by decide) ?_
      exact g_iret hE hG hr hlk dX9_copy_15 hw

set_option maxHeartbeats 4000000 in
set_option maxRecDepth 100000 in
theorem b_X9_isLaw_37 {p : Program} {l : Launch} {e : Env} {s : State} {m : MethodId} {args : Array Value} {below : List Frame} {meth : Method} {c : Code} {X : wX} {A : Nat → Prop} {H : Heap} {locs : List Loc} {ls : Array Slot} {σ : St} (hE : eV p m c cX9_isLaw 4 s args wsX9_isLaw RX9 X) (hr : meth.sig.returnType = (some .boolean)) (hlk : meth.locks = false) {Q : Int32 → St → Prop} {v0 : Int32} {v3 : Int32} (hw : wb_X9_isLaw_37 Q v0 v3 σ) (hG : gW X kcL A s.heap σ H locs) (hl : lv_has ls 4 [(0, .int v0), (3, .int v3)]) : W p l e rm_X9_isLaw s m args below meth c H locs 0 0 (zI X kcL below args s A Q) (F0 m 37 ls []) := by
  have hx := hE.1.1
  have hb := hE.1.2.1
  unfold wb_X9_isLaw_37 at hw
  refine lv_iload_n hx hb dX9_isLaw_37 rfl (lv_at hl 1 rfl) ?_
  refine lv_iconst (v := 0) hx hb dX9_isLaw_38 (by decide) ?_
  refine lv_iload_n hx hb dX9_isLaw_39 rfl (lv_at hl 0 rfl) ?_
  refine lv_if_ne (tgt := 49) hx hb dX9_isLaw_40 (by decide) (fun hc11 => ?_) (fun hc11 => ?_)
  · have hw := hw.1 hc11
    refine lv_ldcw (v := (60000)) hx hb hE.1.2.2.2.1 (hE.1.2.2.2.2 _ (by decide +kernel)) dX9_isLaw_49 ?_
    refine g_calli hG (g_runS (rm := rm_X9_isBetween) (As := [.int v3, .int (0 : Int32), .int (60000 : Int32)]) (rest := []) (n := 3) hE hG (m_X9_isBetween l X hw _) gX9_isLaw_X9_isBetween rfl rfl rfl (by decide +kernel) ⟨Nat.le_of_ble_eq_true rfl, Nat.le_of_ble_eq_true rfl⟩ rfl hl.1 (Nat.le_of_ble_eq_true rfl) dX9_isLaw_52 ⟨Nat.zero_le _, Nat.zero_le _⟩) (fun r12 σ13 H locs hw hG => ?_)
    exact g_zret hE hG hr hlk dX9_isLaw_55 hw.1 hw.2
  · have hw := hw.2 hc11
    refine lv_sipush (v := (359)) hx hb dX9_isLaw_43 (by decide) ?_
    refine lv_goto (tgt := 52) hx hb dX9_isLaw_46 (by decide) ?_
    refine g_calli hG (g_runS (rm := rm_X9_isBetween) (As := [.int v3, .int (0 : Int32), .int (359 : Int32)]) (rest := []) (n := 3) hE hG (m_X9_isBetween l X hw _) gX9_isLaw_X9_isBetween rfl rfl rfl (by decide +kernel) ⟨Nat.le_of_ble_eq_true rfl, Nat.le_of_ble_eq_true rfl⟩ rfl hl.1 (Nat.le_of_ble_eq_true rfl) dX9_isLaw_52 ⟨Nat.zero_le _, Nat.zero_le _⟩) (fun r14 σ15 H locs hw hG => ?_)
    exact g_zret hE hG hr hlk dX9_isLaw_55 hw.1 hw.2

set_option maxHeartbeats 4000000 in
set_option maxRecDepth 100000 in
theorem m_X9_isLaw (l : Launch) (X : wX) {Q : Int32 → St → Prop} {v0 : Int32} {v1 : Int32} {v2 : Int32} {v3 : Int32} {σ : St} (hw : wp_X9_isLaw Q v0 v1 v2 v3 σ) : mI X kcL l yX9_isLaw wsX9_isLaw rm_X9_isLaw [.int v0, .int v1, .int v2, .int v3] σ Q := by
  refine mI.of (cc := cX9_isLaw) (maxL := 4) (ret := (some .boolean)) (by decide +kernel) rfl (Nat.le_of_ble_eq_true rfl) ?_
  intro A p e s m args below meth c ls hE hr hlk hl hG
  have hx := hE.1.1
  have hb := hE.1.2.1
  unfold wp_X9_isLaw at hw
  have hl : lv_has ls 4 [(0, .int v0), (1, .int v1), (2, .int v2), (3, .int v3)] := hl
  refine lv_iload_n hx hb dX9_isLaw_0 rfl (lv_at hl 0 rfl) ?_
  refine lv_iconst (v := 0) hx hb dX9_isLaw_1 (by decide) ?_
  refine lv_iconst (v := 3) hx hb dX9_isLaw_2 (by decide) ?_
  refine g_calli hG (g_runS (rm := rm_X9_isBetween) (As := [.int v0, .int (0 : Int32), .int (3 : Int32)]) (rest := []) (n := 3) hE hG (m_X9_isBetween l X hw _) gX9_isLaw_X9_isBetween rfl rfl rfl (by decide +kernel) ⟨Nat.le_of_ble_eq_true rfl, Nat.le_of_ble_eq_true rfl⟩ rfl hl.1 (Nat.le_of_ble_eq_true rfl) dX9_isLaw_3 ⟨Nat.zero_le _, Nat.zero_le _⟩) (fun r1 σ2 H locs hw hG => ?_)
  refine lv_if_eq (tgt := 23) hx hb dX9_isLaw_6 (by decide) (fun hc3 => ?_) (fun hc3 => ?_)
  · have hw := hw.1 hc3
    refine lv_iconst (v := 0) hx hb dX9_isLaw_23 (by decide) ?_
    exact g_zret hE hG hr hlk dX9_isLaw_24 (by decide) hw
  · have hw := hw.2 hc3
    refine lv_iload_n hx hb dX9_isLaw_9 rfl (lv_at hl 1 rfl) ?_
    refine g_calli hG (g_runS (rm := rm_X9_isAct) (As := [.int v1]) (rest := []) (n := 1) hE hG (m_X9_isAct l X hw _) gX9_isLaw_X9_isAct rfl rfl rfl (by decide +kernel) ⟨Nat.le_of_ble_eq_true rfl, Nat.le_of_ble_eq_true rfl⟩ rfl hl.1 (Nat.le_of_ble_eq_true rfl) dX9_isLaw_10 ⟨Nat.zero_le _, Nat.zero_le _⟩) (fun r4 σ5 H locs hw hG => ?_)
    refine lv_if_eq (tgt := 23) hx hb dX9_isLaw_13 (by decide) (fun hc6 => ?_) (fun hc6 => ?_)
    · have hw := hw.1 hc6
      refine lv_iconst (v := 0) hx hb dX9_isLaw_23 (by decide) ?_
      exact g_zret hE hG hr hlk dX9_isLaw_24 (by decide) hw
    · have hw := hw.2 hc6
      refine lv_iload_n hx hb dX9_isLaw_16 rfl (lv_at hl 2 rfl) ?_
      refine g_calli hG (g_runS (rm := rm_X9_isAct) (As := [.int v2]) (rest := []) (n := 1) hE hG (m_X9_isAct l X hw _) gX9_isLaw_X9_isAct rfl rfl rfl (by decide +kernel) ⟨Nat.le_of_ble_eq_true rfl, Nat.le_of_ble_eq_true rfl⟩ rfl hl.1 (Nat.le_of_ble_eq_true rfl) dX9_isLaw_17 ⟨Nat.zero_le _, Nat.zero_le _⟩) (fun r7 σ8 H locs hw hG => ?_)
      refine lv_if_ne (tgt := 25) hx hb dX9_isLaw_20 (by decide) (fun hc9 => ?_) (fun hc9 => ?_)
      · have hw := hw.1 hc9
        refine lv_iload_n hx hb dX9_isLaw_25 rfl (lv_at hl 1 rfl) ?_
        refine lv_iload_n hx hb dX9_isLaw_26 rfl (lv_at hl 2 rfl) ?_
        refine lv_icmp_ne (tgt := 37) hx hb dX9_isLaw_27 (by decide) (fun hc10 => ?_) (fun hc10 => ?_)
        · have hw := hw.1 hc10
          exact b_X9_isLaw_37 hE hr hlk hw hG (lv_sub hl [0, 3] rfl)
        · have hw := hw.2 hc10
          refine lv_iload_n hx hb dX9_isLaw_30 rfl (lv_at hl 0 rfl) ?_
          refine lv_iconst (v := 2) hx hb dX9_isLaw_31 (by decide) ?_
          refine lv_icmp_eq (tgt := 37) hx hb dX9_isLaw_32 (by decide) (fun hc16 => ?_) (fun hc16 => ?_)
          · have hw := hw.1 hc16
            exact b_X9_isLaw_37 hE hr hlk hw hG (lv_sub hl [0, 3] rfl)
          · have hw := hw.2 hc16
            refine lv_iconst (v := 0) hx hb dX9_isLaw_35 (by decide) ?_
            exact g_zret hE hG hr hlk dX9_isLaw_36 (by decide) hw
      · have hw := hw.2 hc9
        refine lv_iconst (v := 0) hx hb dX9_isLaw_23 (by decide) ?_
        exact g_zret hE hG hr hlk dX9_isLaw_24 (by decide) hw

