/-! the constructors, by program (wip/gen/ctor.py) -/
set_option maxHeartbeats 8000000 in
set_option maxRecDepth 100000 in
theorem i_X1_init (l : Launch) (X : wX) (h0 : Nat) : mC X l yX1_init wsX1_init ({ frames := 1, cells := 0, slots := 0, locals := 12 } : Room) [.ref h0] [(h0, .inr (1, [.int 0, .int 0, .int 0, .int 0, .int 0, .int 0, .int 0]))] (fun u => [(h0, .inr (1, [.int (0 : Int32), .int (0 : Int32), .int (0 : Int32), .int (0 : Int32), .int (0 : Int32), .int (0 : Int32), .int (0 : Int32)]))]) 0 0 := by
  refine mC.of (cc := cX1_init) (maxL := 1) (by decide) rfl (Nat.le_of_ble_eq_true rfl) ?_
  intro A p e s m args below meth c ls hE hr hlk hnm hl hG
  have hx := hE.1.1
  have hb := hE.1.2.1
  have hl : lv_has ls 1 [(0, .ref h0)] := hl
  refine lv_aload_n hx hb dX1_init_0 rfl (lv_at hl 0 rfl) ?_
  refine e_obj hE (by decide +kernel) (by decide +kernel) (by decide +kernel) hl.1 dX1_init_1 (by decide) (Nat.le_of_ble_eq_true rfl) ?_
  refine lv_aload_n hx hb dX1_init_4 rfl (lv_at hl 0 rfl) ?_
  refine lv_iconst (v := (0)) hx hb dX1_init_5 (by decide) ?_
  refine e_put (k := 0) (w2 := [(h0, .inr (1, [.int (0 : Int32), .int 0, .int 0, .int 0, .int 0, .int 0, .int 0]))]) (ty := .int) hE hG 0 rfl rfl rfl (by decide +kernel) tyX1 tyX1_ok nmX1 (by decide) (by decide +kernel) rfl rfl (by decide +kernel) rfl rfl (Nat.le_of_ble_eq_true rfl) dX1_init_6 (fun H locs hG => ?_)
  refine lv_aload_n hx hb dX1_init_9 rfl (lv_at hl 0 rfl) ?_
  refine lv_iconst (v := (0)) hx hb dX1_init_10 (by decide) ?_
  refine e_put (k := 1) (w2 := [(h0, .inr (1, [.int (0 : Int32), .int (0 : Int32), .int 0, .int 0, .int 0, .int 0, .int 0]))]) (ty := .int) hE hG 0 rfl rfl rfl (by decide +kernel) tyX1 tyX1_ok nmX1 (by decide) (by decide +kernel) rfl rfl (by decide +kernel) rfl rfl (Nat.le_of_ble_eq_true rfl) dX1_init_11 (fun H locs hG => ?_)
  refine lv_aload_n hx hb dX1_init_14 rfl (lv_at hl 0 rfl) ?_
  refine lv_iconst (v := (0)) hx hb dX1_init_15 (by decide) ?_
  refine e_put (k := 2) (w2 := [(h0, .inr (1, [.int (0 : Int32), .int (0 : Int32), .int (0 : Int32), .int 0, .int 0, .int 0, .int 0]))]) (ty := .int) hE hG 0 rfl rfl rfl (by decide +kernel) tyX1 tyX1_ok nmX1 (by decide) (by decide +kernel) rfl rfl (by decide +kernel) rfl rfl (Nat.le_of_ble_eq_true rfl) dX1_init_16 (fun H locs hG => ?_)
  refine lv_aload_n hx hb dX1_init_19 rfl (lv_at hl 0 rfl) ?_
  refine lv_iconst (v := (0)) hx hb dX1_init_20 (by decide) ?_
  refine e_put (k := 3) (w2 := [(h0, .inr (1, [.int (0 : Int32), .int (0 : Int32), .int (0 : Int32), .int (0 : Int32), .int 0, .int 0, .int 0]))]) (ty := .int) hE hG 0 rfl rfl rfl (by decide +kernel) tyX1 tyX1_ok nmX1 (by decide) (by decide +kernel) rfl rfl (by decide +kernel) rfl rfl (Nat.le_of_ble_eq_true rfl) dX1_init_21 (fun H locs hG => ?_)
  refine lv_aload_n hx hb dX1_init_24 rfl (lv_at hl 0 rfl) ?_
  refine lv_iconst (v := (0)) hx hb dX1_init_25 (by decide) ?_
  refine e_put (k := 4) (w2 := [(h0, .inr (1, [.int (0 : Int32), .int (0 : Int32), .int (0 : Int32), .int (0 : Int32), .int (0 : Int32), .int 0, .int 0]))]) (ty := .int) hE hG 0 rfl rfl rfl (by decide +kernel) tyX1 tyX1_ok nmX1 (by decide) (by decide +kernel) rfl rfl (by decide +kernel) rfl rfl (Nat.le_of_ble_eq_true rfl) dX1_init_26 (fun H locs hG => ?_)
  refine lv_aload_n hx hb dX1_init_29 rfl (lv_at hl 0 rfl) ?_
  refine lv_iconst (v := (0)) hx hb dX1_init_30 (by decide) ?_
  refine e_put (k := 5) (w2 := [(h0, .inr (1, [.int (0 : Int32), .int (0 : Int32), .int (0 : Int32), .int (0 : Int32), .int (0 : Int32), .int (0 : Int32), .int 0]))]) (ty := .int) hE hG 0 rfl rfl rfl (by decide +kernel) tyX1 tyX1_ok nmX1 (by decide) (by decide +kernel) rfl rfl (by decide +kernel) rfl rfl (Nat.le_of_ble_eq_true rfl) dX1_init_31 (fun H locs hG => ?_)
  refine lv_aload_n hx hb dX1_init_34 rfl (lv_at hl 0 rfl) ?_
  refine lv_iconst (v := (0)) hx hb dX1_init_35 (by decide) ?_
  refine e_put (k := 6) (w2 := [(h0, .inr (1, [.int (0 : Int32), .int (0 : Int32), .int (0 : Int32), .int (0 : Int32), .int (0 : Int32), .int (0 : Int32), .int (0 : Int32)]))]) (ty := .int) hE hG 0 rfl rfl rfl (by decide +kernel) tyX1 tyX1_ok nmX1 (by decide) (by decide +kernel) rfl rfl (by decide +kernel) rfl rfl (Nat.le_of_ble_eq_true rfl) dX1_init_36 (fun H locs hG => ?_)
  exact e_vret (fun j => ([] : List Nat).getD j 0) hE hG hr hlk dX1_init_39 rfl
set_option maxHeartbeats 8000000 in
set_option maxRecDepth 100000 in
theorem i_X8_init (l : Launch) (X : wX) (h0 : Nat) : mC X l yX8_init wsX8_init ({ frames := 1, cells := 0, slots := 0, locals := 12 } : Room) [.ref h0] [(h0, .inr (8, [.int 0, .int 0, .int 0, .int 0]))] (fun u => [(h0, .inr (8, [.int (0 : Int32), .int (0 : Int32), .int (0 : Int32), .int (0 : Int32)]))]) 0 0 := by
  refine mC.of (cc := cX8_init) (maxL := 1) (by decide) rfl (Nat.le_of_ble_eq_true rfl) ?_
  intro A p e s m args below meth c ls hE hr hlk hnm hl hG
  have hx := hE.1.1
  have hb := hE.1.2.1
  have hl : lv_has ls 1 [(0, .ref h0)] := hl
  refine lv_aload_n hx hb dX8_init_0 rfl (lv_at hl 0 rfl) ?_
  refine e_obj hE (by decide +kernel) (by decide +kernel) (by decide +kernel) hl.1 dX8_init_1 (by decide) (Nat.le_of_ble_eq_true rfl) ?_
  refine lv_aload_n hx hb dX8_init_4 rfl (lv_at hl 0 rfl) ?_
  refine lv_iconst (v := (0)) hx hb dX8_init_5 (by decide) ?_
  refine e_put (k := 0) (w2 := [(h0, .inr (8, [.int (0 : Int32), .int 0, .int 0, .int 0]))]) (ty := .int) hE hG 0 rfl rfl rfl (by decide +kernel) tyX8 tyX8_ok nmX8 (by decide) (by decide +kernel) rfl rfl (by decide +kernel) rfl rfl (Nat.le_of_ble_eq_true rfl) dX8_init_6 (fun H locs hG => ?_)
  refine lv_aload_n hx hb dX8_init_9 rfl (lv_at hl 0 rfl) ?_
  refine lv_iconst (v := (0)) hx hb dX8_init_10 (by decide) ?_
  refine e_put (k := 1) (w2 := [(h0, .inr (8, [.int (0 : Int32), .int (0 : Int32), .int 0, .int 0]))]) (ty := .int) hE hG 0 rfl rfl rfl (by decide +kernel) tyX8 tyX8_ok nmX8 (by decide) (by decide +kernel) rfl rfl (by decide +kernel) rfl rfl (Nat.le_of_ble_eq_true rfl) dX8_init_11 (fun H locs hG => ?_)
  refine lv_aload_n hx hb dX8_init_14 rfl (lv_at hl 0 rfl) ?_
  refine lv_iconst (v := (0)) hx hb dX8_init_15 (by decide) ?_
  refine e_put (k := 2) (w2 := [(h0, .inr (8, [.int (0 : Int32), .int (0 : Int32), .int (0 : Int32), .int 0]))]) (ty := .int) hE hG 0 rfl rfl rfl (by decide +kernel) tyX8 tyX8_ok nmX8 (by decide) (by decide +kernel) rfl rfl (by decide +kernel) rfl rfl (Nat.le_of_ble_eq_true rfl) dX8_init_16 (fun H locs hG => ?_)
  refine lv_aload_n hx hb dX8_init_19 rfl (lv_at hl 0 rfl) ?_
  refine lv_iconst (v := (0)) hx hb dX8_init_20 (by decide) ?_
  refine e_put (k := 3) (w2 := [(h0, .inr (8, [.int (0 : Int32), .int (0 : Int32), .int (0 : Int32), .int (0 : Int32)]))]) (ty := .int) hE hG 0 rfl rfl rfl (by decide +kernel) tyX8 tyX8_ok nmX8 (by decide) (by decide +kernel) rfl rfl (by decide +kernel) rfl rfl (Nat.le_of_ble_eq_true rfl) dX8_init_21 (fun H locs hG => ?_)
  exact e_vret (fun j => ([] : List Nat).getD j 0) hE hG hr hlk dX8_init_24 rfl
def iniOn : Nat → Int32 := upd (upd (upd (upd (upd (upd (upd (upd (fun _ => 0) 0 (0)) 1 (40)) 2 (80)) 3 (120)) 4 (160)) 5 (200)) 6 (240)) 7 (280)
def iniOff : Nat → Int32 := upd (upd (upd (upd (upd (upd (upd (upd (fun _ => 0) 0 (20)) 1 (60)) 2 (100)) 3 (140)) 4 (180)) 5 (220)) 6 (260)) 7 (300)
set_option maxHeartbeats 8000000 in
set_option maxRecDepth 100000 in
theorem i_X2_init (l : Launch) (X : wX) (h0 : Nat) : mC X l yX2_init wsX2_init ({ frames := 1, cells := 2, slots := 16, locals := 12 } : Room) [.ref h0] [(h0, .inr (2, [.null, .null]))] (fun u => [(h0, .inr (2, [.ref (u 0), .ref (u 1)])), ((u 0), .inl (X.2.2 0, 8, .inl (iniOn))), ((u 1), .inl (X.2.2 0, 8, .inl (iniOff)))]) 2 16 := by
  refine mC.of (cc := cX2_init) (maxL := 2) (by decide) rfl (Nat.le_of_ble_eq_true rfl) ?_
  intro A p e s m args below meth c ls hE hr hlk hnm hl hG
  have hx := hE.1.1
  have hb := hE.1.2.1
  have hl : lv_has ls 2 [(0, .ref h0)] := hl
  refine lv_aload_n hx hb dX2_init_0 rfl (lv_at hl 0 rfl) ?_
  refine e_obj hE (by decide +kernel) (by decide +kernel) (by decide +kernel) hl.1 dX2_init_1 (by decide) (Nat.le_of_ble_eq_true rfl) ?_
  refine lv_aload_n hx hb dX2_init_4 rfl (lv_at hl 0 rfl) ?_
  refine lv_bipush (v := (8)) hx hb dX2_init_5 (by decide) ?_
  refine e_newI (N' := 8) hE hG (by decide +kernel) (by decide) (by decide) (by decide) (by decide) (by decide) dX2_init_7 (fun q1 H hG => ?_)
  have hG : gE X A s.heap [(h0, .inr (2, [.null, .null])), (q1, .inl (X.2.2 0, 8, .inl (fun _ => 0)))] H _ := hG
  refine e_putF (k := 0) (w2 := [(h0, .inr (2, [.ref q1, .null])), (q1, .inl (X.2.2 0, 8, .inl (fun _ => 0)))]) (ty := (.array .int)) hE hG 0 rfl rfl rfl (by decide +kernel) tyX2 tyX2_ok nmX2 (by decide) (by decide +kernel) rfl rfl hnm rfl (by decide +kernel) rfl rfl (Nat.le_of_ble_eq_true rfl) dX2_init_9 (fun H locs hG => ?_)
  refine lv_aload_n hx hb dX2_init_12 rfl (lv_at hl 0 rfl) ?_
  refine lv_bipush (v := (8)) hx hb dX2_init_13 (by decide) ?_
  refine e_newI (N' := 8) hE hG (by decide +kernel) (by decide) (by decide) (by decide) (by decide) (by decide) dX2_init_15 (fun q2 H hG => ?_)
  have hG : gE X A s.heap [(h0, .inr (2, [.ref q1, .null])), (q1, .inl (X.2.2 0, 8, .inl (fun _ => 0))), (q2, .inl (X.2.2 0, 8, .inl (fun _ => 0)))] H _ := hG
  refine e_putF (k := 1) (w2 := [(h0, .inr (2, [.ref q1, .ref q2])), (q1, .inl (X.2.2 0, 8, .inl (fun _ => 0))), (q2, .inl (X.2.2 0, 8, .inl (fun _ => 0)))]) (ty := (.array .int)) hE hG 0 rfl rfl rfl (by decide +kernel) tyX2 tyX2_ok nmX2 (by decide) (by decide +kernel) rfl rfl hnm rfl (by decide +kernel) rfl rfl (Nat.le_of_ble_eq_true rfl) dX2_init_17 (fun H locs hG => ?_)
  refine lv_iconst (v := (0)) hx hb dX2_init_20 (by decide) ?_
  refine lv_istore_n (lv' := [(1, .int (0 : Int32)), (0, .ref h0)]) hx hb dX2_init_21 rfl hl (by decide) rfl (fun ls hl => ?_)
  refine lv_iload_n hx hb dX2_init_22 rfl (lv_at hl 0 rfl) ?_
  refine lv_bipush (v := (8)) hx hb dX2_init_23 (by decide) ?_
  refine lv_icmp_ge (tgt := 57) hx hb dX2_init_25 (by decide) (fun h => absurd h (by decide)) (fun _ => ?_)
  refine lv_aload_n hx hb dX2_init_28 rfl (lv_at hl 1 rfl) ?_
  refine e_get (k := 0) hE hG 0 rfl rfl (by decide +kernel) (by decide) (by decide +kernel) rfl rfl dX2_init_29 ?_
  refine lv_iload_n hx hb dX2_init_32 rfl (lv_at hl 0 rfl) ?_
  refine lv_bipush (v := (40)) hx hb dX2_init_33 (by decide) ?_
  refine lv_iload_n hx hb dX2_init_35 rfl (lv_at hl 0 rfl) ?_
  refine lv_imul hx hb dX2_init_36 ?_
  refine lv_topi (fun z3 ez3 => ?_)
  obtain rfl : z3 = (0 : Int32) := ez3.trans (by decide)
  refine e_iast (k := 0) (y := (0)) (w2 := [(h0, .inr (2, [.ref q1, .ref q2])), (q1, .inl (X.2.2 0, 8, .inl (upd (fun _ => 0) 0 (0)))), (q2, .inl (X.2.2 0, 8, .inl (fun _ => 0)))]) hE hG 1 rfl rfl (by decide) rfl (by unfold vp_in; decide) dX2_init_37 (fun H locs hG => ?_)
  refine lv_aload_n hx hb dX2_init_38 rfl (lv_at hl 1 rfl) ?_
  refine e_get (k := 1) hE hG 0 rfl rfl (by decide +kernel) (by decide) (by decide +kernel) rfl rfl dX2_init_39 ?_
  refine lv_iload_n hx hb dX2_init_42 rfl (lv_at hl 0 rfl) ?_
  refine lv_bipush (v := (40)) hx hb dX2_init_43 (by decide) ?_
  refine lv_iload_n hx hb dX2_init_45 rfl (lv_at hl 0 rfl) ?_
  refine lv_imul hx hb dX2_init_46 ?_
  refine lv_topi (fun z4 ez4 => ?_)
  obtain rfl : z4 = (0 : Int32) := ez4.trans (by decide)
  refine lv_bipush (v := (20)) hx hb dX2_init_47 (by decide) ?_
  refine lv_iadd hx hb dX2_init_49 ?_
  refine lv_topi (fun z5 ez5 => ?_)
  obtain rfl : z5 = (20 : Int32) := ez5.trans (by decide)
  refine e_iast (k := 0) (y := (20)) (w2 := [(h0, .inr (2, [.ref q1, .ref q2])), (q1, .inl (X.2.2 0, 8, .inl (upd (fun _ => 0) 0 (0)))), (q2, .inl (X.2.2 0, 8, .inl (upd (fun _ => 0) 0 (20))))]) hE hG 2 rfl rfl (by decide) rfl (by unfold vp_in; decide) dX2_init_50 (fun H locs hG => ?_)
  refine lv_iinc (v := 1) (lv' := [(1, .int (1 : Int32)), (0, .ref h0)]) hx hb dX2_init_51 hl (k := 0) rfl (by decide) (by decide) rfl (fun ls hl => ?_)
  refine lv_goto (tgt := 22) hx hb dX2_init_54 (by decide) ?_
  refine lv_iload_n hx hb dX2_init_22 rfl (lv_at hl 0 rfl) ?_
  refine lv_bipush (v := (8)) hx hb dX2_init_23 (by decide) ?_
  refine lv_icmp_ge (tgt := 57) hx hb dX2_init_25 (by decide) (fun h => absurd h (by decide)) (fun _ => ?_)
  refine lv_aload_n hx hb dX2_init_28 rfl (lv_at hl 1 rfl) ?_
  refine e_get (k := 0) hE hG 0 rfl rfl (by decide +kernel) (by decide) (by decide +kernel) rfl rfl dX2_init_29 ?_
  refine lv_iload_n hx hb dX2_init_32 rfl (lv_at hl 0 rfl) ?_
  refine lv_bipush (v := (40)) hx hb dX2_init_33 (by decide) ?_
  refine lv_iload_n hx hb dX2_init_35 rfl (lv_at hl 0 rfl) ?_
  refine lv_imul hx hb dX2_init_36 ?_
  refine lv_topi (fun z6 ez6 => ?_)
  obtain rfl : z6 = (40 : Int32) := ez6.trans (by decide)
  refine e_iast (k := 1) (y := (40)) (w2 := [(h0, .inr (2, [.ref q1, .ref q2])), (q1, .inl (X.2.2 0, 8, .inl (upd (upd (fun _ => 0) 0 (0)) 1 (40)))), (q2, .inl (X.2.2 0, 8, .inl (upd (fun _ => 0) 0 (20))))]) hE hG 1 rfl rfl (by decide) rfl (by unfold vp_in; decide) dX2_init_37 (fun H locs hG => ?_)
  refine lv_aload_n hx hb dX2_init_38 rfl (lv_at hl 1 rfl) ?_
  refine e_get (k := 1) hE hG 0 rfl rfl (by decide +kernel) (by decide) (by decide +kernel) rfl rfl dX2_init_39 ?_
  refine lv_iload_n hx hb dX2_init_42 rfl (lv_at hl 0 rfl) ?_
  refine lv_bipush (v := (40)) hx hb dX2_init_43 (by decide) ?_
  refine lv_iload_n hx hb dX2_init_45 rfl (lv_at hl 0 rfl) ?_
  refine lv_imul hx hb dX2_init_46 ?_
  refine lv_topi (fun z7 ez7 => ?_)
  obtain rfl : z7 = (40 : Int32) := ez7.trans (by decide)
  refine lv_bipush (v := (20)) hx hb dX2_init_47 (by decide) ?_
  refine lv_iadd hx hb dX2_init_49 ?_
  refine lv_topi (fun z8 ez8 => ?_)
  obtain rfl : z8 = (60 : Int32) := ez8.trans (by decide)
  refine e_iast (k := 1) (y := (60)) (w2 := [(h0, .inr (2, [.ref q1, .ref q2])), (q1, .inl (X.2.2 0, 8, .inl (upd (upd (fun _ => 0) 0 (0)) 1 (40)))), (q2, .inl (X.2.2 0, 8, .inl (upd (upd (fun _ => 0) 0 (20)) 1 (60))))]) hE hG 2 rfl rfl (by decide) rfl (by unfold vp_in; decide) dX2_init_50 (fun H locs hG => ?_)
  refine lv_iinc (v := 2) (lv' := [(1, .int (2 : Int32)), (0, .ref h0)]) hx hb dX2_init_51 hl (k := 0) rfl (by decide) (by decide) rfl (fun ls hl => ?_)
  refine lv_goto (tgt := 22) hx hb dX2_init_54 (by decide) ?_
  refine lv_iload_n hx hb dX2_init_22 rfl (lv_at hl 0 rfl) ?_
  refine lv_bipush (v := (8)) hx hb dX2_init_23 (by decide) ?_
  refine lv_icmp_ge (tgt := 57) hx hb dX2_init_25 (by decide) (fun h => absurd h (by decide)) (fun _ => ?_)
  refine lv_aload_n hx hb dX2_init_28 rfl (lv_at hl 1 rfl) ?_
  refine e_get (k := 0) hE hG 0 rfl rfl (by decide +kernel) (by decide) (by decide +kernel) rfl rfl dX2_init_29 ?_
  refine lv_iload_n hx hb dX2_init_32 rfl (lv_at hl 0 rfl) ?_
  refine lv_bipush (v := (40)) hx hb dX2_init_33 (by decide) ?_
  refine lv_iload_n hx hb dX2_init_35 rfl (lv_at hl 0 rfl) ?_
  refine lv_imul hx hb dX2_init_36 ?_
  refine lv_topi (fun z9 ez9 => ?_)
  obtain rfl : z9 = (80 : Int32) := ez9.trans (by decide)
  refine e_iast (k := 2) (y := (80)) (w2 := [(h0, .inr (2, [.ref q1, .ref q2])), (q1, .inl (X.2.2 0, 8, .inl (upd (upd (upd (fun _ => 0) 0 (0)) 1 (40)) 2 (80)))), (q2, .inl (X.2.2 0, 8, .inl (upd (upd (fun _ => 0) 0 (20)) 1 (60))))]) hE hG 1 rfl rfl (by decide) rfl (by unfold vp_in; decide) dX2_init_37 (fun H locs hG => ?_)
  refine lv_aload_n hx hb dX2_init_38 rfl (lv_at hl 1 rfl) ?_
  refine e_get (k := 1) hE hG 0 rfl rfl (by decide +kernel) (by decide) (by decide +kernel) rfl rfl dX2_init_39 ?_
  refine lv_iload_n hx hb dX2_init_42 rfl (lv_at hl 0 rfl) ?_
  refine lv_bipush (v := (40)) hx hb dX2_init_43 (by decide) ?_
  refine lv_iload_n hx hb dX2_init_45 rfl (lv_at hl 0 rfl) ?_
  refine lv_imul hx hb dX2_init_46 ?_
  refine lv_topi (fun z10 ez10 => ?_)
  obtain rfl : z10 = (80 : Int32) := ez10.trans (by decide)
  refine lv_bipush (v := (20)) hx hb dX2_init_47 (by decide) ?_
  refine lv_iadd hx hb dX2_init_49 ?_
  refine lv_topi (fun z11 ez11 => ?_)
  obtain rfl : z11 = (100 : Int32) := ez11.trans (by decide)
  refine e_iast (k := 2) (y := (100)) (w2 := [(h0, .inr (2, [.ref q1, .ref q2])), (q1, .inl (X.2.2 0, 8, .inl (upd (upd (upd (fun _ => 0) 0 (0)) 1 (40)) 2 (80)))), (q2, .inl (X.2.2 0, 8, .inl (upd (upd (upd (fun _ => 0) 0 (20)) 1 (60)) 2 (100))))]) hE hG 2 rfl rfl (by decide) rfl (by unfold vp_in; decide) dX2_init_50 (fun H locs hG => ?_)
  refine lv_iinc (v := 3) (lv' := [(1, .int (3 : Int32)), (0, .ref h0)]) hx hb dX2_init_51 hl (k := 0) rfl (by decide) (by decide) rfl (fun ls hl => ?_)
  refine lv_goto (tgt := 22) hx hb dX2_init_54 (by decide) ?_
  refine lv_iload_n hx hb dX2_init_22 rfl (lv_at hl 0 rfl) ?_
  refine lv_bipush (v := (8)) hx hb dX2_init_23 (by decide) ?_
  refine lv_icmp_ge (tgt := 57) hx hb dX2_init_25 (by decide) (fun h => absurd h (by decide)) (fun _ => ?_)
  refine lv_aload_n hx hb dX2_init_28 rfl (lv_at hl 1 rfl) ?_
  refine e_get (k := 0) hE hG 0 rfl rfl (by decide +kernel) (by decide) (by decide +kernel) rfl rfl dX2_init_29 ?_
  refine lv_iload_n hx hb dX2_init_32 rfl (lv_at hl 0 rfl) ?_
  refine lv_bipush (v := (40)) hx hb dX2_init_33 (by decide) ?_
  refine lv_iload_n hx hb dX2_init_35 rfl (lv_at hl 0 rfl) ?_
  refine lv_imul hx hb dX2_init_36 ?_
  refine lv_topi (fun z12 ez12 => ?_)
  obtain rfl : z12 = (120 : Int32) := ez12.trans (by decide)
  refine e_iast (k := 3) (y := (120)) (w2 := [(h0, .inr (2, [.ref q1, .ref q2])), (q1, .inl (X.2.2 0, 8, .inl (upd (upd (upd (upd (fun _ => 0) 0 (0)) 1 (40)) 2 (80)) 3 (120)))), (q2, .inl (X.2.2 0, 8, .inl (upd (upd (upd (fun _ => 0) 0 (20)) 1 (60)) 2 (100))))]) hE hG 1 rfl rfl (by decide) rfl (by unfold vp_in; decide) dX2_init_37 (fun H locs hG => ?_)
  refine lv_aload_n hx hb dX2_init_38 rfl (lv_at hl 1 rfl) ?_
  refine e_get (k := 1) hE hG 0 rfl rfl (by decide +kernel) (by decide) (by decide +kernel) rfl rfl dX2_init_39 ?_
  refine lv_iload_n hx hb dX2_init_42 rfl (lv_at hl 0 rfl) ?_
  refine lv_bipush (v := (40)) hx hb dX2_init_43 (by decide) ?_
  refine lv_iload_n hx hb dX2_init_45 rfl (lv_at hl 0 rfl) ?_
  refine lv_imul hx hb dX2_init_46 ?_
  refine lv_topi (fun z13 ez13 => ?_)
  obtain rfl : z13 = (120 : Int32) := ez13.trans (by decide)
  refine lv_bipush (v := (20)) hx hb dX2_init_47 (by decide) ?_
  refine lv_iadd hx hb dX2_init_49 ?_
  refine lv_topi (fun z14 ez14 => ?_)
  obtain rfl : z14 = (140 : Int32) := ez14.trans (by decide)
  refine e_iast (k := 3) (y := (140)) (w2 := [(h0, .inr (2, [.ref q1, .ref q2])), (q1, .inl (X.2.2 0, 8, .inl (upd (upd (upd (upd (fun _ => 0) 0 (0)) 1 (40)) 2 (80)) 3 (120)))), (q2, .inl (X.2.2 0, 8, .inl (upd (upd (upd (upd (fun _ => 0) 0 (20)) 1 (60)) 2 (100)) 3 (140))))]) hE hG 2 rfl rfl (by decide) rfl (by unfold vp_in; decide) dX2_init_50 (fun H locs hG => ?_)
  refine lv_iinc (v := 4) (lv' := [(1, .int (4 : Int32)), (0, .ref h0)]) hx hb dX2_init_51 hl (k := 0) rfl (by decide) (by decide) rfl (fun ls hl => ?_)
  refine lv_goto (tgt := 22) hx hb dX2_init_54 (by decide) ?_
  refine lv_iload_n hx hb dX2_init_22 rfl (lv_at hl 0 rfl) ?_
  refine lv_bipush (v := (8)) hx hb dX2_init_23 (by decide) ?_
  refine lv_icmp_ge (tgt := 57) hx hb dX2_init_25 (by decide) (fun h => absurd h (by decide)) (fun _ => ?_)
  refine lv_aload_n hx hb dX2_init_28 rfl (lv_at hl 1 rfl) ?_
  refine e_get (k := 0) hE hG 0 rfl rfl (by decide +kernel) (by decide) (by decide +kernel) rfl rfl dX2_init_29 ?_
  refine lv_iload_n hx hb dX2_init_32 rfl (lv_at hl 0 rfl) ?_
  refine lv_bipush (v := (40)) hx hb dX2_init_33 (by decide) ?_
  refine lv_iload_n hx hb dX2_init_35 rfl (lv_at hl 0 rfl) ?_
  refine lv_imul hx hb dX2_init_36 ?_
  refine lv_topi (fun z15 ez15 => ?_)
  obtain rfl : z15 = (160 : Int32) := ez15.trans (by decide)
  refine e_iast (k := 4) (y := (160)) (w2 := [(h0, .inr (2, [.ref q1, .ref q2])), (q1, .inl (X.2.2 0, 8, .inl (upd (upd (upd (upd (upd (fun _ => 0) 0 (0)) 1 (40)) 2 (80)) 3 (120)) 4 (160)))), (q2, .inl (X.2.2 0, 8, .inl (upd (upd (upd (upd (fun _ => 0) 0 (20)) 1 (60)) 2 (100)) 3 (140))))]) hE hG 1 rfl rfl (by decide) rfl (by unfold vp_in; decide) dX2_init_37 (fun H locs hG => ?_)
  refine lv_aload_n hx hb dX2_init_38 rfl (lv_at hl 1 rfl) ?_
  refine e_get (k := 1) hE hG 0 rfl rfl (by decide +kernel) (by decide) (by decide +kernel) rfl rfl dX2_init_39 ?_
  refine lv_iload_n hx hb dX2_init_42 rfl (lv_at hl 0 rfl) ?_
  refine lv_bipush (v := (40)) hx hb dX2_init_43 (by decide) ?_
  refine lv_iload_n hx hb dX2_init_45 rfl (lv_at hl 0 rfl) ?_
  refine lv_imul hx hb dX2_init_46 ?_
  refine lv_topi (fun z16 ez16 => ?_)
  obtain rfl : z16 = (160 : Int32) := ez16.trans (by decide)
  refine lv_bipush (v := (20)) hx hb dX2_init_47 (by decide) ?_
  refine lv_iadd hx hb dX2_init_49 ?_
  refine lv_topi (fun z17 ez17 => ?_)
  obtain rfl : z17 = (180 : Int32) := ez17.trans (by decide)
  refine e_iast (k := 4) (y := (180)) (w2 := [(h0, .inr (2, [.ref q1, .ref q2])), (q1, .inl (X.2.2 0, 8, .inl (upd (upd (upd (upd (upd (fun _ => 0) 0 (0)) 1 (40)) 2 (80)) 3 (120)) 4 (160)))), (q2, .inl (X.2.2 0, 8, .inl (upd (upd (upd (upd (upd (fun _ => 0) 0 (20)) 1 (60)) 2 (100)) 3 (140)) 4 (180))))]) hE hG 2 rfl rfl (by decide) rfl (by unfold vp_in; decide) dX2_init_50 (fun H locs hG => ?_)
  refine lv_iinc (v := 5) (lv' := [(1, .int (5 : Int32)), (0, .ref h0)]) hx hb dX2_init_51 hl (k := 0) rfl (by decide) (by decide) rfl (fun ls hl => ?_)
  refine lv_goto (tgt := 22) hx hb dX2_init_54 (by decide) ?_
  refine lv_iload_n hx hb dX2_init_22 rfl (lv_at hl 0 rfl) ?_
  refine lv_bipush (v := (8)) hx hb dX2_init_23 (by decide) ?_
  refine lv_icmp_ge (tgt := 57) hx hb dX2_init_25 (by decide) (fun h => absurd h (by decide)) (fun _ => ?_)
  refine lv_aload_n hx hb dX2_init_28 rfl (lv_at hl 1 rfl) ?_
  refine e_get (k := 0) hE hG 0 rfl rfl (by decide +kernel) (by decide) (by decide +kernel) rfl rfl dX2_init_29 ?_
  refine lv_iload_n hx hb dX2_init_32 rfl (lv_at hl 0 rfl) ?_
  refine lv_bipush (v := (40)) hx hb dX2_init_33 (by decide) ?_
  refine lv_iload_n hx hb dX2_init_35 rfl (lv_at hl 0 rfl) ?_
  refine lv_imul hx hb dX2_init_36 ?_
  refine lv_topi (fun z18 ez18 => ?_)
  obtain rfl : z18 = (200 : Int32) := ez18.trans (by decide)
  refine e_iast (k := 5) (y := (200)) (w2 := [(h0, .inr (2, [.ref q1, .ref q2])), (q1, .inl (X.2.2 0, 8, .inl (upd (upd (upd (upd (upd (upd (fun _ => 0) 0 (0)) 1 (40)) 2 (80)) 3 (120)) 4 (160)) 5 (200)))), (q2, .inl (X.2.2 0, 8, .inl (upd (upd (upd (upd (upd (fun _ => 0) 0 (20)) 1 (60)) 2 (100)) 3 (140)) 4 (180))))]) hE hG 1 rfl rfl (by decide) rfl (by unfold vp_in; decide) dX2_init_37 (fun H locs hG => ?_)
  refine lv_aload_n hx hb dX2_init_38 rfl (lv_at hl 1 rfl) ?_
  refine e_get (k := 1) hE hG 0 rfl rfl (by decide +kernel) (by decide) (by decide +kernel) rfl rfl dX2_init_39 ?_
  refine lv_iload_n hx hb dX2_init_42 rfl (lv_at hl 0 rfl) ?_
  refine lv_bipush (v := (40)) hx hb dX2_init_43 (by decide) ?_
  refine lv_iload_n hx hb dX2_init_45 rfl (lv_at hl 0 rfl) ?_
  refine lv_imul hx hb dX2_init_46 ?_
  refine lv_topi (fun z19 ez19 => ?_)
  obtain rfl : z19 = (200 : Int32) := ez19.trans (by decide)
  refine lv_bipush (v := (20)) hx hb dX2_init_47 (by decide) ?_
  refine lv_iadd hx hb dX2_init_49 ?_
  refine lv_topi (fun z20 ez20 => ?_)
  obtain rfl : z20 = (220 : Int32) := ez20.trans (by decide)
  refine e_iast (k := 5) (y := (220)) (w2 := [(h0, .inr (2, [.ref q1, .ref q2])), (q1, .inl (X.2.2 0, 8, .inl (upd (upd (upd (upd (upd (upd (fun _ => 0) 0 (0)) 1 (40)) 2 (80)) 3 (120)) 4 (160)) 5 (200)))), (q2, .inl (X.2.2 0, 8, .inl (upd (upd (upd (upd (upd (upd (fun _ => 0) 0 (20)) 1 (60)) 2 (100)) 3 (140)) 4 (180)) 5 (220))))]) hE hG 2 rfl rfl (by decide) rfl (by unfold vp_in; decide) dX2_init_50 (fun H locs hG => ?_)
  refine lv_iinc (v := 6) (lv' := [(1, .int (6 : Int32)), (0, .ref h0)]) hx hb dX2_init_51 hl (k := 0) rfl (by decide) (by decide) rfl (fun ls hl => ?_)
  refine lv_goto (tgt := 22) hx hb dX2_init_54 (by decide) ?_
  refine lv_iload_n hx hb dX2_init_22 rfl (lv_at hl 0 rfl) ?_
  refine lv_bipush (v := (8)) hx hb dX2_init_23 (by decide) ?_
  refine lv_icmp_ge (tgt := 57) hx hb dX2_init_25 (by decide) (fun h => absurd h (by decide)) (fun _ => ?_)
  refine lv_aload_n hx hb dX2_init_28 rfl (lv_at hl 1 rfl) ?_
  refine e_get (k := 0) hE hG 0 rfl rfl (by decide +kernel) (by decide) (by decide +kernel) rfl rfl dX2_init_29 ?_
  refine lv_iload_n hx hb dX2_init_32 rfl (lv_at hl 0 rfl) ?_
  refine lv_bipush (v := (40)) hx hb dX2_init_33 (by decide) ?_
  refine lv_iload_n hx hb dX2_init_35 rfl (lv_at hl 0 rfl) ?_
  refine lv_imul hx hb dX2_init_36 ?_
  refine lv_topi (fun z21 ez21 => ?_)
  obtain rfl : z21 = (240 : Int32) := ez21.trans (by decide)
  refine e_iast (k := 6) (y := (240)) (w2 := [(h0, .inr (2, [.ref q1, .ref q2])), (q1, .inl (X.2.2 0, 8, .inl (upd (upd (upd (upd (upd (upd (upd (fun _ => 0) 0 (0)) 1 (40)) 2 (80)) 3 (120)) 4 (160)) 5 (200)) 6 (240)))), (q2, .inl (X.2.2 0, 8, .inl (upd (upd (upd (upd (upd (upd (fun _ => 0) 0 (20)) 1 (60)) 2 (100)) 3 (140)) 4 (180)) 5 (220))))]) hE hG 1 rfl rfl (by decide) rfl (by unfold vp_in; decide) dX2_init_37 (fun H locs hG => ?_)
  refine lv_aload_n hx hb dX2_init_38 rfl (lv_at hl 1 rfl) ?_
  refine e_get (k := 1) hE hG 0 rfl rfl (by decide +kernel) (by decide) (by decide +kernel) rfl rfl dX2_init_39 ?_
  refine lv_iload_n hx hb dX2_init_42 rfl (lv_at hl 0 rfl) ?_
  refine lv_bipush (v := (40)) hx hb dX2_init_43 (by decide) ?_
  refine lv_iload_n hx hb dX2_init_45 rfl (lv_at hl 0 rfl) ?_
  refine lv_imul hx hb dX2_init_46 ?_
  refine lv_topi (fun z22 ez22 => ?_)
  obtain rfl : z22 = (240 : Int32) := ez22.trans (by decide)
  refine lv_bipush (v := (20)) hx hb dX2_init_47 (by decide) ?_
  refine lv_iadd hx hb dX2_init_49 ?_
  refine lv_topi (fun z23 ez23 => ?_)
  obtain rfl : z23 = (260 : Int32) := ez23.trans (by decide)
  refine e_iast (k := 6) (y := (260)) (w2 := [(h0, .inr (2, [.ref q1, .ref q2])), (q1, .inl (X.2.2 0, 8, .inl (upd (upd (upd (upd (upd (upd (upd (fun _ => 0) 0 (0)) 1 (40)) 2 (80)) 3 (120)) 4 (160)) 5 (200)) 6 (240)))), (q2, .inl (X.2.2 0, 8, .inl (upd (upd (upd (upd (upd (upd (upd (fun _ => 0) 0 (20)) 1 (60)) 2 (100)) 3 (140)) 4 (180)) 5 (220)) 6 (260))))]) hE hG 2 rfl rfl (by decide) rfl (by unfold vp_in; decide) dX2_init_50 (fun H locs hG => ?_)
  refine lv_iinc (v := 7) (lv' := [(1, .int (7 : Int32)), (0, .ref h0)]) hx hb dX2_init_51 hl (k := 0) rfl (by decide) (by decide) rfl (fun ls hl => ?_)
  refine lv_goto (tgt := 22) hx hb dX2_init_54 (by decide) ?_
  refine lv_iload_n hx hb dX2_init_22 rfl (lv_at hl 0 rfl) ?_
  refine lv_bipush (v := (8)) hx hb dX2_init_23 (by decide) ?_
  refine lv_icmp_ge (tgt := 57) hx hb dX2_init_25 (by decide) (fun h => absurd h (by decide)) (fun _ => ?_)
  refine lv_aload_n hx hb dX2_init_28 rfl (lv_at hl 1 rfl) ?_
  refine e_get (k := 0) hE hG 0 rfl rfl (by decide +kernel) (by decide) (by decide +kernel) rfl rfl dX2_init_29 ?_
  refine lv_iload_n hx hb dX2_init_32 rfl (lv_at hl 0 rfl) ?_
  refine lv_bipush (v := (40)) hx hb dX2_init_33 (by decide) ?_
  refine lv_iload_n hx hb dX2_init_35 rfl (lv_at hl 0 rfl) ?_
  refine lv_imul hx hb dX2_init_36 ?_
  refine lv_topi (fun z24 ez24 => ?_)
  obtain rfl : z24 = (280 : Int32) := ez24.trans (by decide)
  refine e_iast (k := 7) (y := (280)) (w2 := [(h0, .inr (2, [.ref q1, .ref q2])), (q1, .inl (X.2.2 0, 8, .inl (upd (upd (upd (upd (upd (upd (upd (upd (fun _ => 0) 0 (0)) 1 (40)) 2 (80)) 3 (120)) 4 (160)) 5 (200)) 6 (240)) 7 (280)))), (q2, .inl (X.2.2 0, 8, .inl (upd (upd (upd (upd (upd (upd (upd (fun _ => 0) 0 (20)) 1 (60)) 2 (100)) 3 (140)) 4 (180)) 5 (220)) 6 (260))))]) hE hG 1 rfl rfl (by decide) rfl (by unfold vp_in; decide) dX2_init_37 (fun H locs hG => ?_)
  refine lv_aload_n hx hb dX2_init_38 rfl (lv_at hl 1 rfl) ?_
  refine e_get (k := 1) hE hG 0 rfl rfl (by decide +kernel) (by decide) (by decide +kernel) rfl rfl dX2_init_39 ?_
  refine lv_iload_n hx hb dX2_init_42 rfl (lv_at hl 0 rfl) ?_
  refine lv_bipush (v := (40)) hx hb dX2_init_43 (by decide) ?_
  refine lv_iload_n hx hb dX2_init_45 rfl (lv_at hl 0 rfl) ?_
  refine lv_imul hx hb dX2_init_46 ?_
  refine lv_topi (fun z25 ez25 => ?_)
  obtain rfl : z25 = (280 : Int32) := ez25.trans (by decide)
  refine lv_bipush (v := (20)) hx hb dX2_init_47 (by decide) ?_
  refine lv_iadd hx hb dX2_init_49 ?_
  refine lv_topi (fun z26 ez26 => ?_)
  obtain rfl : z26 = (300 : Int32) := ez26.trans (by decide)
  refine e_iast (k := 7) (y := (300)) (w2 := [(h0, .inr (2, [.ref q1, .ref q2])), (q1, .inl (X.2.2 0, 8, .inl (upd (upd (upd (upd (upd (upd (upd (upd (fun _ => 0) 0 (0)) 1 (40)) 2 (80)) 3 (120)) 4 (160)) 5 (200)) 6 (240)) 7 (280)))), (q2, .inl (X.2.2 0, 8, .inl (upd (upd (upd (upd (upd (upd (upd (upd (fun _ => 0) 0 (20)) 1 (60)) 2 (100)) 3 (140)) 4 (180)) 5 (220)) 6 (260)) 7 (300))))]) hE hG 2 rfl rfl (by decide) rfl (by unfold vp_in; decide) dX2_init_50 (fun H locs hG => ?_)
  refine lv_iinc (v := 8) (lv' := [(1, .int (8 : Int32)), (0, .ref h0)]) hx hb dX2_init_51 hl (k := 0) rfl (by decide) (by decide) rfl (fun ls hl => ?_)
  refine lv_goto (tgt := 22) hx hb dX2_init_54 (by decide) ?_
  refine lv_iload_n hx hb dX2_init_22 rfl (lv_at hl 0 rfl) ?_
  refine lv_bipush (v := (8)) hx hb dX2_init_23 (by decide) ?_
  refine lv_icmp_ge (tgt := 57) hx hb dX2_init_25 (by decide) (fun _ => ?_) (fun h => absurd (by decide) h)
  exact e_vret (fun j => ([q1, q2] : List Nat).getD j 0) hE hG hr hlk dX2_init_57 rfl
set_option maxHeartbeats 8000000 in
set_option maxRecDepth 100000 in
theorem i_X4_init (l : Launch) (X : wX) (h0 : Nat) : mC X l yX4_init wsX4_init ({ frames := 1, cells := 2, slots := 12, locals := 12 } : Room) [.ref h0] [(h0, .inr (4, [.null, .null, .int 0]))] (fun u => [(h0, .inr (4, [.ref (u 0), .ref (u 1), .int (0 : Int32)])), ((u 0), .inl (X.2.2 0, 6, .inl (fun _ => 0))), ((u 1), .inl (X.2.2 0, 6, .inl (fun _ => 0)))]) 2 12 := by
  refine mC.of (cc := cX4_init) (maxL := 1) (by decide) rfl (Nat.le_of_ble_eq_true rfl) ?_
  intro A p e s m args below meth c ls hE hr hlk hnm hl hG
  have hx := hE.1.1
  have hb := hE.1.2.1
  have hl : lv_has ls 1 [(0, .ref h0)] := hl
  refine lv_aload_n hx hb dX4_init_0 rfl (lv_at hl 0 rfl) ?_
  refine e_obj hE (by decide +kernel) (by decide +kernel) (by decide +kernel) hl.1 dX4_init_1 (by decide) (Nat.le_of_ble_eq_true rfl) ?_
  refine lv_aload_n hx hb dX4_init_4 rfl (lv_at hl 0 rfl) ?_
  refine lv_bipush (v := (6)) hx hb dX4_init_5 (by decide) ?_
  refine e_newI (N' := 6) hE hG (by decide +kernel) (by decide) (by decide) (by decide) (by decide) (by decide) dX4_init_7 (fun q1 H hG => ?_)
  have hG : gE X A s.heap [(h0, .inr (4, [.null, .null, .int 0])), (q1, .inl (X.2.2 0, 6, .inl (fun _ => 0)))] H _ := hG
  refine e_putF (k := 0) (w2 := [(h0, .inr (4, [.ref q1, .null, .int 0])), (q1, .inl (X.2.2 0, 6, .inl (fun _ => 0)))]) (ty := (.array .int)) hE hG 0 rfl rfl rfl (by decide +kernel) tyX4 tyX4_ok nmX4 (by decide) (by decide +kernel) rfl rfl hnm rfl (by decide +kernel) rfl rfl (Nat.le_of_ble_eq_true rfl) dX4_init_9 (fun H locs hG => ?_)
  refine lv_aload_n hx hb dX4_init_12 rfl (lv_at hl 0 rfl) ?_
  refine lv_bipush (v := (6)) hx hb dX4_init_13 (by decide) ?_
  refine e_newI (N' := 6) hE hG (by decide +kernel) (by decide) (by decide) (by decide) (by decide) (by decide) dX4_init_15 (fun q2 H hG => ?_)
  have hG : gE X A s.heap [(h0, .inr (4, [.ref q1, .null, .int 0])), (q1, .inl (X.2.2 0, 6, .inl (fun _ => 0))), (q2, .inl (X.2.2 0, 6, .inl (fun _ => 0)))] H _ := hG
  refine e_putF (k := 1) (w2 := [(h0, .inr (4, [.ref q1, .ref q2, .int 0])), (q1, .inl (X.2.2 0, 6, .inl (fun _ => 0))), (q2, .inl (X.2.2 0, 6, .inl (fun _ => 0)))]) (ty := (.array .int)) hE hG 0 rfl rfl rfl (by decide +kernel) tyX4 tyX4_ok nmX4 (by decide) (by decide +kernel) rfl rfl hnm rfl (by decide +kernel) rfl rfl (Nat.le_of_ble_eq_true rfl) dX4_init_17 (fun H locs hG => ?_)
  refine lv_aload_n hx hb dX4_init_20 rfl (lv_at hl 0 rfl) ?_
  refine lv_iconst (v := (0)) hx hb dX4_init_21 (by decide) ?_
  refine e_put (k := 2) (w2 := [(h0, .inr (4, [.ref q1, .ref q2, .int (0 : Int32)])), (q1, .inl (X.2.2 0, 6, .inl (fun _ => 0))), (q2, .inl (X.2.2 0, 6, .inl (fun _ => 0)))]) (ty := .int) hE hG 0 rfl rfl rfl (by decide +kernel) tyX4 tyX4_ok nmX4 (by decide) (by decide +kernel) rfl rfl (by decide +kernel) rfl rfl (Nat.le_of_ble_eq_true rfl) dX4_init_22 (fun H locs hG => ?_)
  exact e_vret (fun j => ([q1, q2] : List Nat).getD j 0) hE hG hr hlk dX4_init_25 rfl
set_option maxHeartbeats 8000000 in
set_option maxRecDepth 100000 in
theorem i_X4_add (l : Launch) (X : wX) (h0 d1 d2 : Nat) (pl : Int32) (f1 f2 : Nat → Int32) : mC X l yX4_add wsX4_add ({ frames := 0, cells := 0, slots := 0, locals := 0 } : Room) [.ref h0, .int 0, .int pl] [(h0, .inr (4, [.ref d1, .ref d2, .int (0 : Int32)])), (d1, .inl (X.2.2 0, 6, .inl (f1))), (d2, .inl (X.2.2 0, 6, .inl (f2)))] (fun u => [(h0, .inr (4, [.ref d1, .ref d2, .int (1 : Int32)])), (d1, .inl (X.2.2 0, 6, .inl (upd (f1) 0 (0)))), (d2, .inl (X.2.2 0, 6, .inl (upd (f2) 0 pl)))]) 0 0 := by
  refine mC.of (cc := cX4_add) (maxL := 3) (by decide) rfl (Nat.le_of_ble_eq_true rfl) ?_
  intro A p e s m args below meth c ls hE hr hlk hnm hl hG
  have hx := hE.1.1
  have hb := hE.1.2.1
  have hl : lv_has ls 3 [(0, .ref h0), (1, .int 0), (2, .int pl)] := hl
  refine lv_aload_n hx hb dX4_add_0 rfl (lv_at hl 0 rfl) ?_
  refine e_get (k := 0) hE hG 0 rfl rfl (by decide +kernel) (by decide) (by decide +kernel) rfl rfl dX4_add_1 ?_
  refine lv_aload_n hx hb dX4_add_4 rfl (lv_at hl 0 rfl) ?_
  refine e_get (k := 2) hE hG 0 rfl rfl (by decide +kernel) (by decide) (by decide +kernel) rfl rfl dX4_add_5 ?_
  refine lv_iload_n hx hb dX4_add_8 rfl (lv_at hl 1 rfl) ?_
  refine e_iast (k := 0) (y := (0)) (w2 := [(h0, .inr (4, [.ref d1, .ref d2, .int (0 : Int32)])), (d1, .inl (X.2.2 0, 6, .inl (upd (f1) 0 (0)))), (d2, .inl (X.2.2 0, 6, .inl (f2)))]) hE hG 1 rfl rfl (by decide) rfl (by unfold vp_in; decide) dX4_add_9 (fun H locs hG => ?_)
  refine lv_aload_n hx hb dX4_add_10 rfl (lv_at hl 0 rfl) ?_
  refine e_get (k := 1) hE hG 0 rfl rfl (by decide +kernel) (by decide) (by decide +kernel) rfl rfl dX4_add_11 ?_
  refine lv_aload_n hx hb dX4_add_14 rfl (lv_at hl 0 rfl) ?_
  refine e_get (k := 2) hE hG 0 rfl rfl (by decide +kernel) (by decide) (by decide +kernel) rfl rfl dX4_add_15 ?_
  refine lv_iload_n hx hb dX4_add_18 rfl (lv_at hl 2 rfl) ?_
  refine e_iast (k := 0) (y := pl) (w2 := [(h0, .inr (4, [.ref d1, .ref d2, .int (0 : Int32)])), (d1, .inl (X.2.2 0, 6, .inl (upd (f1) 0 (0)))), (d2, .inl (X.2.2 0, 6, .inl (upd (f2) 0 pl)))]) hE hG 2 rfl rfl (by decide) rfl (by unfold vp_in; decide) dX4_add_19 (fun H locs hG => ?_)
  refine lv_aload_n hx hb dX4_add_20 rfl (lv_at hl 0 rfl) ?_
  refine lv_dup hx hb dX4_add_21 rfl ?_
  refine e_get (k := 2) hE hG 0 rfl rfl (by decide +kernel) (by decide) (by decide +kernel) rfl rfl dX4_add_22 ?_
  refine lv_iconst (v := (1)) hx hb dX4_add_25 (by decide) ?_
  refine lv_iadd hx hb dX4_add_26 ?_
  refine lv_topi (fun z1 ez1 => ?_)
  obtain rfl : z1 = (1 : Int32) := ez1.trans (by decide)
  refine e_put (k := 2) (w2 := [(h0, .inr (4, [.ref d1, .ref d2, .int (1 : Int32)])), (d1, .inl (X.2.2 0, 6, .inl (upd (f1) 0 (0)))), (d2, .inl (X.2.2 0, 6, .inl (upd (f2) 0 pl)))]) (ty := .int) hE hG 0 rfl rfl rfl (by decide +kernel) tyX4 tyX4_ok nmX4 (by decide) (by decide +kernel) rfl rfl (by decide +kernel) rfl rfl (Nat.le_of_ble_eq_true rfl) dX4_add_27 (fun H locs hG => ?_)
  exact e_vret (fun j => ([] : List Nat).getD j 0) hE hG hr hlk dX4_add_30 rfl
def iniSec : Nat → Int32 := upd (upd (upd (upd (upd (upd (fun _ => 0) 0 (0)) 1 (1)) 2 (2)) 3 (3)) 4 (4)) 5 (5)
set_option maxHeartbeats 8000000 in
set_option maxRecDepth 100000 in
theorem i_X6_init (l : Launch) (X : wX) (h0 : Nat) : mC X l yX6_init wsX6_init ({ frames := 1, cells := 1, slots := 6, locals := 12 } : Room) [.ref h0] [(h0, .inr (6, [.null, .int 0, .int 0]))] (fun u => [(h0, .inr (6, [.ref (u 0), .int (0 : Int32), .int (6 : Int32)])), ((u 0), .inl (X.2.2 0, 6, .inl (iniSec)))]) 1 6 := by
  refine mC.of (cc := cX6_init) (maxL := 2) (by decide) rfl (Nat.le_of_ble_eq_true rfl) ?_
  intro A p e s m args below meth c ls hE hr hlk hnm hl hG
  have hx := hE.1.1
  have hb := hE.1.2.1
  have hl : lv_has ls 2 [(0, .ref h0)] := hl
  refine lv_aload_n hx hb dX6_init_0 rfl (lv_at hl 0 rfl) ?_
  refine e_obj hE (by decide +kernel) (by decide +kernel) (by decide +kernel) hl.1 dX6_init_1 (by decide) (Nat.le_of_ble_eq_true rfl) ?_
  refine lv_aload_n hx hb dX6_init_4 rfl (lv_at hl 0 rfl) ?_
  refine lv_bipush (v := (6)) hx hb dX6_init_5 (by decide) ?_
  refine e_newI (N' := 6) hE hG (by decide +kernel) (by decide) (by decide) (by decide) (by decide) (by decide) dX6_init_7 (fun q1 H hG => ?_)
  have hG : gE X A s.heap [(h0, .inr (6, [.null, .int 0, .int 0])), (q1, .inl (X.2.2 0, 6, .inl (fun _ => 0)))] H _ := hG
  refine e_putF (k := 0) (w2 := [(h0, .inr (6, [.ref q1, .int 0, .int 0])), (q1, .inl (X.2.2 0, 6, .inl (fun _ => 0)))]) (ty := (.array .int)) hE hG 0 rfl rfl rfl (by decide +kernel) tyX6 tyX6_ok nmX6 (by decide) (by decide +kernel) rfl rfl hnm rfl (by decide +kernel) rfl rfl (Nat.le_of_ble_eq_true rfl) dX6_init_9 (fun H locs hG => ?_)
  refine lv_aload_n hx hb dX6_init_12 rfl (lv_at hl 0 rfl) ?_
  refine lv_iconst (v := (0)) hx hb dX6_init_13 (by decide) ?_
  refine e_put (k := 1) (w2 := [(h0, .inr (6, [.ref q1, .int (0 : Int32), .int 0])), (q1, .inl (X.2.2 0, 6, .inl (fun _ => 0)))]) (ty := .int) hE hG 0 rfl rfl rfl (by decide +kernel) tyX6 tyX6_ok nmX6 (by decide) (by decide +kernel) rfl rfl (by decide +kernel) rfl rfl (Nat.le_of_ble_eq_true rfl) dX6_init_14 (fun H locs hG => ?_)
  refine lv_aload_n hx hb dX6_init_17 rfl (lv_at hl 0 rfl) ?_
  refine lv_bipush (v := (6)) hx hb dX6_init_18 (by decide) ?_
  refine e_put (k := 2) (w2 := [(h0, .inr (6, [.ref q1, .int (0 : Int32), .int (6 : Int32)])), (q1, .inl (X.2.2 0, 6, .inl (fun _ => 0)))]) (ty := .int) hE hG 0 rfl rfl rfl (by decide +kernel) tyX6 tyX6_ok nmX6 (by decide) (by decide +kernel) rfl rfl (by decide +kernel) rfl rfl (Nat.le_of_ble_eq_true rfl) dX6_init_20 (fun H locs hG => ?_)
  refine lv_iconst (v := (0)) hx hb dX6_init_23 (by decide) ?_
  refine lv_istore_n (lv' := [(1, .int (0 : Int32)), (0, .ref h0)]) hx hb dX6_init_24 rfl hl (by decide) rfl (fun ls hl => ?_)
  refine lv_iload_n hx hb dX6_init_25 rfl (lv_at hl 0 rfl) ?_
  refine lv_bipush (v := (6)) hx hb dX6_init_26 (by decide) ?_
  refine lv_icmp_ge (tgt := 44) hx hb dX6_init_28 (by decide) (fun h => absurd h (by decide)) (fun _ => ?_)
  refine lv_aload_n hx hb dX6_init_31 rfl (lv_at hl 1 rfl) ?_
  refine e_get (k := 0) hE hG 0 rfl rfl (by decide +kernel) (by decide) (by decide +kernel) rfl rfl dX6_init_32 ?_
  refine lv_iload_n hx hb dX6_init_35 rfl (lv_at hl 0 rfl) ?_
  refine lv_iload_n hx hb dX6_init_36 rfl (lv_at hl 0 rfl) ?_
  refine e_iast (k := 0) (y := (0)) (w2 := [(h0, .inr (6, [.ref q1, .int (0 : Int32), .int (6 : Int32)])), (q1, .inl (X.2.2 0, 6, .inl (upd (fun _ => 0) 0 (0))))]) hE hG 1 rfl rfl (by decide) rfl (by unfold vp_in; decide) dX6_init_37 (fun H locs hG => ?_)
  refine lv_iinc (v := 1) (lv' := [(1, .int (1 : Int32)), (0, .ref h0)]) hx hb dX6_init_38 hl (k := 0) rfl (by decide) (by decide) rfl (fun ls hl => ?_)
  refine lv_goto (tgt := 25) hx hb dX6_init_41 (by decide) ?_
  refine lv_iload_n hx hb dX6_init_25 rfl (lv_at hl 0 rfl) ?_
  refine lv_bipush (v := (6)) hx hb dX6_init_26 (by decide) ?_
  refine lv_icmp_ge (tgt := 44) hx hb dX6_init_28 (by decide) (fun h => absurd h (by decide)) (fun _ => ?_)
  refine lv_aload_n hx hb dX6_init_31 rfl (lv_at hl 1 rfl) ?_
  refine e_get (k := 0) hE hG 0 rfl rfl (by decide +kernel) (by decide) (by decide +kernel) rfl rfl dX6_init_32 ?_
  refine lv_iload_n hx hb dX6_init_35 rfl (lv_at hl 0 rfl) ?_
  refine lv_iload_n hx hb dX6_init_36 rfl (lv_at hl 0 rfl) ?_
  refine e_iast (k := 1) (y := (1)) (w2 := [(h0, .inr (6, [.ref q1, .int (0 : Int32), .int (6 : Int32)])), (q1, .inl (X.2.2 0, 6, .inl (upd (upd (fun _ => 0) 0 (0)) 1 (1))))]) hE hG 1 rfl rfl (by decide) rfl (by unfold vp_in; decide) dX6_init_37 (fun H locs hG => ?_)
  refine lv_iinc (v := 2) (lv' := [(1, .int (2 : Int32)), (0, .ref h0)]) hx hb dX6_init_38 hl (k := 0) rfl (by decide) (by decide) rfl (fun ls hl => ?_)
  refine lv_goto (tgt := 25) hx hb dX6_init_41 (by decide) ?_
  refine lv_iload_n hx hb dX6_init_25 rfl (lv_at hl 0 rfl) ?_
  refine lv_bipush (v := (6)) hx hb dX6_init_26 (by decide) ?_
  refine lv_icmp_ge (tgt := 44) hx hb dX6_init_28 (by decide) (fun h => absurd h (by decide)) (fun _ => ?_)
  refine lv_aload_n hx hb dX6_init_31 rfl (lv_at hl 1 rfl) ?_
  refine e_get (k := 0) hE hG 0 rfl rfl (by decide +kernel) (by decide) (by decide +kernel) rfl rfl dX6_init_32 ?_
  refine lv_iload_n hx hb dX6_init_35 rfl (lv_at hl 0 rfl) ?_
  refine lv_iload_n hx hb dX6_init_36 rfl (lv_at hl 0 rfl) ?_
  refine e_iast (k := 2) (y := (2)) (w2 := [(h0, .inr (6, [.ref q1, .int (0 : Int32), .int (6 : Int32)])), (q1, .inl (X.2.2 0, 6, .inl (upd (upd (upd (fun _ => 0) 0 (0)) 1 (1)) 2 (2))))]) hE hG 1 rfl rfl (by decide) rfl (by unfold vp_in; decide) dX6_init_37 (fun H locs hG => ?_)
  refine lv_iinc (v := 3) (lv' := [(1, .int (3 : Int32)), (0, .ref h0)]) hx hb dX6_init_38 hl (k := 0) rfl (by decide) (by decide) rfl (fun ls hl => ?_)
  refine lv_goto (tgt := 25) hx hb dX6_init_41 (by decide) ?_
  refine lv_iload_n hx hb dX6_init_25 rfl (lv_at hl 0 rfl) ?_
  refine lv_bipush (v := (6)) hx hb dX6_init_26 (by decide) ?_
  refine lv_icmp_ge (tgt := 44) hx hb dX6_init_28 (by decide) (fun h => absurd h (by decide)) (fun _ => ?_)
  refine lv_aload_n hx hb dX6_init_31 rfl (lv_at hl 1 rfl) ?_
  refine e_get (k := 0) hE hG 0 rfl rfl (by decide +kernel) (by decide) (by decide +kernel) rfl rfl dX6_init_32 ?_
  refine lv_iload_n hx hb dX6_init_35 rfl (lv_at hl 0 rfl) ?_
  refine lv_iload_n hx hb dX6_init_36 rfl (lv_at hl 0 rfl) ?_
  refine e_iast (k := 3) (y := (3)) (w2 := [(h0, .inr (6, [.ref q1, .int (0 : Int32), .int (6 : Int32)])), (q1, .inl (X.2.2 0, 6, .inl (upd (upd (upd (upd (fun _ => 0) 0 (0)) 1 (1)) 2 (2)) 3 (3))))]) hE hG 1 rfl rfl (by decide) rfl (by unfold vp_in; decide) dX6_init_37 (fun H locs hG => ?_)
  refine lv_iinc (v := 4) (lv' := [(1, .int (4 : Int32)), (0, .ref h0)]) hx hb dX6_init_38 hl (k := 0) rfl (by decide) (by decide) rfl (fun ls hl => ?_)
  refine lv_goto (tgt := 25) hx hb dX6_init_41 (by decide) ?_
  refine lv_iload_n hx hb dX6_init_25 rfl (lv_at hl 0 rfl) ?_
  refine lv_bipush (v := (6)) hx hb dX6_init_26 (by decide) ?_
  refine lv_icmp_ge (tgt := 44) hx hb dX6_init_28 (by decide) (fun h => absurd h (by decide)) (fun _ => ?_)
  refine lv_aload_n hx hb dX6_init_31 rfl (lv_at hl 1 rfl) ?_
  refine e_get (k := 0) hE hG 0 rfl rfl (by decide +kernel) (by decide) (by decide +kernel) rfl rfl dX6_init_32 ?_
  refine lv_iload_n hx hb dX6_init_35 rfl (lv_at hl 0 rfl) ?_
  refine lv_iload_n hx hb dX6_init_36 rfl (lv_at hl 0 rfl) ?_
  refine e_iast (k := 4) (y := (4)) (w2 := [(h0, .inr (6, [.ref q1, .int (0 : Int32), .int (6 : Int32)])), (q1, .inl (X.2.2 0, 6, .inl (upd (upd (upd (upd (upd (fun _ => 0) 0 (0)) 1 (1)) 2 (2)) 3 (3)) 4 (4))))]) hE hG 1 rfl rfl (by decide) rfl (by unfold vp_in; decide) dX6_init_37 (fun H locs hG => ?_)
  refine lv_iinc (v := 5) (lv' := [(1, .int (5 : Int32)), (0, .ref h0)]) hx hb dX6_init_38 hl (k := 0) rfl (by decide) (by decide) rfl (fun ls hl => ?_)
  refine lv_goto (tgt := 25) hx hb dX6_init_41 (by decide) ?_
  refine lv_iload_n hx hb dX6_init_25 rfl (lv_at hl 0 rfl) ?_
  refine lv_bipush (v := (6)) hx hb dX6_init_26 (by decide) ?_
  refine lv_icmp_ge (tgt := 44) hx hb dX6_init_28 (by decide) (fun h => absurd h (by decide)) (fun _ => ?_)
  refine lv_aload_n hx hb dX6_init_31 rfl (lv_at hl 1 rfl) ?_
  refine e_get (k := 0) hE hG 0 rfl rfl (by decide +kernel) (by decide) (by decide +kernel) rfl rfl dX6_init_32 ?_
  refine lv_iload_n hx hb dX6_init_35 rfl (lv_at hl 0 rfl) ?_
  refine lv_iload_n hx hb dX6_init_36 rfl (lv_at hl 0 rfl) ?_
  refine e_iast (k := 5) (y := (5)) (w2 := [(h0, .inr (6, [.ref q1, .int (0 : Int32), .int (6 : Int32)])), (q1, .inl (X.2.2 0, 6, .inl (upd (upd (upd (upd (upd (upd (fun _ => 0) 0 (0)) 1 (1)) 2 (2)) 3 (3)) 4 (4)) 5 (5))))]) hE hG 1 rfl rfl (by decide) rfl (by unfold vp_in; decide) dX6_init_37 (fun H locs hG => ?_)
  refine lv_iinc (v := 6) (lv' := [(1, .int (6 : Int32)), (0, .ref h0)]) hx hb dX6_init_38 hl (k := 0) rfl (by decide) (by decide) rfl (fun ls hl => ?_)
  refine lv_goto (tgt := 25) hx hb dX6_init_41 (by decide) ?_
  refine lv_iload_n hx hb dX6_init_25 rfl (lv_at hl 0 rfl) ?_
  refine lv_bipush (v := (6)) hx hb dX6_init_26 (by decide) ?_
  refine lv_icmp_ge (tgt := 44) hx hb dX6_init_28 (by decide) (fun _ => ?_) (fun h => absurd (by decide) h)
  exact e_vret (fun j => ([q1] : List Nat).getD j 0) hE hG hr hlk dX6_init_44 rfl
def iniIn : Nat → Int32 := upd (upd (upd (upd (upd (upd (fun _ => 0) 0 (0)) 1 (1)) 2 (2)) 3 (3)) 4 (4)) 5 (5)
set_option maxHeartbeats 8000000 in
set_option maxRecDepth 100000 in
theorem i_X5_init (l : Launch) (X : wX) (h0 : Nat) : mC X l yX5_init wsX5_init ({ frames := 1, cells := 6, slots := 156, locals := 12 } : Room) [.ref h0] [(h0, .inr (5, [.null, .null, .null, .null, .null, .null]))] (fun u => [(h0, .inr (5, [.ref (u 0), .ref (u 1), .ref (u 2), .ref (u 3), .ref (u 4), .ref (u 5)])), ((u 0), .inl (X.2.2 0, 30, .inl (fun _ => 0))), ((u 1), .inl (X.2.2 0, 30, .inl (fun _ => 0))), ((u 2), .inl (X.2.2 1, 30, .inl (fun _ => 0))), ((u 3), .inl (X.2.2 0, 30, .inl (fun _ => 0))), ((u 4), .inl (X.2.2 0, 30, .inl (fun _ => 0))), ((u 5), .inl (X.2.2 0, 6, .inl (iniIn)))]) 6 156 := by
  refine mC.of (cc := cX5_init) (maxL := 2) (by decide) rfl (Nat.le_of_ble_eq_true rfl) ?_
  intro A p e s m args below meth c ls hE hr hlk hnm hl hG
  have hx := hE.1.1
  have hb := hE.1.2.1
  have hl : lv_has ls 2 [(0, .ref h0)] := hl
  refine lv_aload_n hx hb dX5_init_0 rfl (lv_at hl 0 rfl) ?_
  refine e_obj hE (by decide +kernel) (by decide +kernel) (by decide +kernel) hl.1 dX5_init_1 (by decide) (Nat.le_of_ble_eq_true rfl) ?_
  refine lv_aload_n hx hb dX5_init_4 rfl (lv_at hl 0 rfl) ?_
  refine lv_bipush (v := (30)) hx hb dX5_init_5 (by decide) ?_
  refine e_newI (N' := 30) hE hG (by decide +kernel) (by decide) (by decide) (by decide) (by decide) (by decide) dX5_init_7 (fun q1 H hG => ?_)
  have hG : gE X A s.heap [(h0, .inr (5, [.null, .null, .null, .null, .null, .null])), (q1, .inl (X.2.2 0, 30, .inl (fun _ => 0)))] H _ := hG
  refine e_putF (k := 0) (w2 := [(h0, .inr (5, [.ref q1, .null, .null, .null, .null, .null])), (q1, .inl (X.2.2 0, 30, .inl (fun _ => 0)))]) (ty := (.array .int)) hE hG 0 rfl rfl rfl (by decide +kernel) tyX5 tyX5_ok nmX5 (by decide) (by decide +kernel) rfl rfl hnm rfl (by decide +kernel) rfl rfl (Nat.le_of_ble_eq_true rfl) dX5_init_9 (fun H locs hG => ?_)
  refine lv_aload_n hx hb dX5_init_12 rfl (lv_at hl 0 rfl) ?_
  refine lv_bipush (v := (30)) hx hb dX5_init_13 (by decide) ?_
  refine e_newI (N' := 30) hE hG (by decide +kernel) (by decide) (by decide) (by decide) (by decide) (by decide) dX5_init_15 (fun q2 H hG => ?_)
  have hG : gE X A s.heap [(h0, .inr (5, [.ref q1, .null, .null, .null, .null, .null])), (q1, .inl (X.2.2 0, 30, .inl (fun _ => 0))), (q2, .inl (X.2.2 0, 30, .inl (fun _ => 0)))] H _ := hG
  refine e_putF (k := 1) (w2 := [(h0, .inr (5, [.ref q1, .ref q2, .null, .null, .null, .null])), (q1, .inl (X.2.2 0, 30, .inl (fun _ => 0))), (q2, .inl (X.2.2 0, 30, .inl (fun _ => 0)))]) (ty := (.array .int)) hE hG 0 rfl rfl rfl (by decide +kernel) tyX5 tyX5_ok nmX5 (by decide) (by decide +kernel) rfl rfl hnm rfl (by decide +kernel) rfl rfl (Nat.le_of_ble_eq_true rfl) dX5_init_17 (fun H locs hG => ?_)
  refine lv_aload_n hx hb dX5_init_20 rfl (lv_at hl 0 rfl) ?_
  refine lv_bipush (v := (30)) hx hb dX5_init_21 (by decide) ?_
  refine e_newZ (N' := 30) hE hG (by decide +kernel) (by decide) (by decide) (by decide) (by decide) (by decide) dX5_init_23 (fun q3 H hG => ?_)
  have hG : gE X A s.heap [(h0, .inr (5, [.ref q1, .ref q2, .null, .null, .null, .null])), (q1, .inl (X.2.2 0, 30, .inl (fun _ => 0))), (q2, .inl (X.2.2 0, 30, .inl (fun _ => 0))), (q3, .inl (X.2.2 1, 30, .inl (fun _ => 0)))] H _ := hG
  refine e_putF (k := 2) (w2 := [(h0, .inr (5, [.ref q1, .ref q2, .ref q3, .null, .null, .null])), (q1, .inl (X.2.2 0, 30, .inl (fun _ => 0))), (q2, .inl (X.2.2 0, 30, .inl (fun _ => 0))), (q3, .inl (X.2.2 1, 30, .inl (fun _ => 0)))]) (ty := (.array .boolean)) hE hG 0 rfl rfl rfl (by decide +kernel) tyX5 tyX5_ok nmX5 (by decide) (by decide +kernel) rfl rfl hnm rfl (by decide +kernel) rfl rfl (Nat.le_of_ble_eq_true rfl) dX5_init_25 (fun H locs hG => ?_)
  refine lv_aload_n hx hb dX5_init_28 rfl (lv_at hl 0 rfl) ?_
  refine lv_bipush (v := (30)) hx hb dX5_init_29 (by decide) ?_
  refine e_newI (N' := 30) hE hG (by decide +kernel) (by decide) (by decide) (by decide) (by decide) (by decide) dX5_init_31 (fun q4 H hG => ?_)
  have hG : gE X A s.heap [(h0, .inr (5, [.ref q1, .ref q2, .ref q3, .null, .null, .null])), (q1, .inl (X.2.2 0, 30, .inl (fun _ => 0))), (q2, .inl (X.2.2 0, 30, .inl (fun _ => 0))), (q3, .inl (X.2.2 1, 30, .inl (fun _ => 0))), (q4, .inl (X.2.2 0, 30, .inl (fun _ => 0)))] H _ := hG
  refine e_putF (k := 3) (w2 := [(h0, .inr (5, [.ref q1, .ref q2, .ref q3, .ref q4, .null, .null])), (q1, .inl (X.2.2 0, 30, .inl (fun _ => 0))), (q2, .inl (X.2.2 0, 30, .inl (fun _ => 0))), (q3, .inl (X.2.2 1, 30, .inl (fun _ => 0))), (q4, .inl (X.2.2 0, 30, .inl (fun _ => 0)))]) (ty := (.array .int)) hE hG 0 rfl rfl rfl (by decide +kernel) tyX5 tyX5_ok nmX5 (by decide) (by decide +kernel) rfl rfl hnm rfl (by decide +kernel) rfl rfl (Nat.le_of_ble_eq_true rfl) dX5_init_33 (fun H locs hG => ?_)
  refine lv_aload_n hx hb dX5_init_36 rfl (lv_at hl 0 rfl) ?_
  refine lv_bipush (v := (30)) hx hb dX5_init_37 (by decide) ?_
  refine e_newI (N' := 30) hE hG (by decide +kernel) (by decide) (by decide) (by decide) (by decide) (by decide) dX5_init_39 (fun q5 H hG => ?_)
  have hG : gE X A s.heap [(h0, .inr (5, [.ref q1, .ref q2, .ref q3, .ref q4, .null, .null])), (q1, .inl (X.2.2 0, 30, .inl (fun _ => 0))), (q2, .inl (X.2.2 0, 30, .inl (fun _ => 0))), (q3, .inl (X.2.2 1, 30, .inl (fun _ => 0))), (q4, .inl (X.2.2 0, 30, .inl (fun _ => 0))), (q5, .inl (X.2.2 0, 30, .inl (fun _ => 0)))] H _ := hG
  refine e_putF (k := 4) (w2 := [(h0, .inr (5, [.ref q1, .ref q2, .ref q3, .ref q4, .ref q5, .null])), (q1, .inl (X.2.2 0, 30, .inl (fun _ => 0))), (q2, .inl (X.2.2 0, 30, .inl (fun _ => 0))), (q3, .inl (X.2.2 1, 30, .inl (fun _ => 0))), (q4, .inl (X.2.2 0, 30, .inl (fun _ => 0))), (q5, .inl (X.2.2 0, 30, .inl (fun _ => 0)))]) (ty := (.array .int)) hE hG 0 rfl rfl rfl (by decide +kernel) tyX5 tyX5_ok nmX5 (by decide) (by decide +kernel) rfl rfl hnm rfl (by decide +kernel) rfl rfl (Nat.le_of_ble_eq_true rfl) dX5_init_41 (fun H locs hG => ?_)
  refine lv_aload_n hx hb dX5_init_44 rfl (lv_at hl 0 rfl) ?_
  refine lv_bipush (v := (6)) hx hb dX5_init_45 (by decide) ?_
  refine e_newI (N' := 6) hE hG (by decide +kernel) (by decide) (by decide) (by decide) (by decide) (by decide) dX5_init_47 (fun q6 H hG => ?_)
  have hG : gE X A s.heap [(h0, .inr (5, [.ref q1, .ref q2, .ref q3, .ref q4, .ref q5, .null])), (q1, .inl (X.2.2 0, 30, .inl (fun _ => 0))), (q2, .inl (X.2.2 0, 30, .inl (fun _ => 0))), (q3, .inl (X.2.2 1, 30, .inl (fun _ => 0))), (q4, .inl (X.2.2 0, 30, .inl (fun _ => 0))), (q5, .inl (X.2.2 0, 30, .inl (fun _ => 0))), (q6, .inl (X.2.2 0, 6, .inl (fun _ => 0)))] H _ := hG
  refine e_putF (k := 5) (w2 := [(h0, .inr (5, [.ref q1, .ref q2, .ref q3, .ref q4, .ref q5, .ref q6])), (q1, .inl (X.2.2 0, 30, .inl (fun _ => 0))), (q2, .inl (X.2.2 0, 30, .inl (fun _ => 0))), (q3, .inl (X.2.2 1, 30, .inl (fun _ => 0))), (q4, .inl (X.2.2 0, 30, .inl (fun _ => 0))), (q5, .inl (X.2.2 0, 30, .inl (fun _ => 0))), (q6, .inl (X.2.2 0, 6, .inl (fun _ => 0)))]) (ty := (.array .int)) hE hG 0 rfl rfl rfl (by decide +kernel) tyX5 tyX5_ok nmX5 (by decide) (by decide +kernel) rfl rfl hnm rfl (by decide +kernel) rfl rfl (Nat.le_of_ble_eq_true rfl) dX5_init_49 (fun H locs hG => ?_)
  refine lv_iconst (v := (0)) hx hb dX5_init_52 (by decide) ?_
  refine lv_istore_n (lv' := [(1, .int (0 : Int32)), (0, .ref h0)]) hx hb dX5_init_53 rfl hl (by decide) rfl (fun ls hl => ?_)
  refine lv_iload_n hx hb dX5_init_54 rfl (lv_at hl 0 rfl) ?_
  refine lv_bipush (v := (6)) hx hb dX5_init_55 (by decide) ?_
  refine lv_icmp_ge (tgt := 73) hx hb dX5_init_57 (by decide) (fun h => absurd h (by decide)) (fun _ => ?_)
  refine lv_aload_n hx hb dX5_init_60 rfl (lv_at hl 1 rfl) ?_
  refine e_get (k := 5) hE hG 0 rfl rfl (by decide +kernel) (by decide) (by decide +kernel) rfl rfl dX5_init_61 ?_
  refine lv_iload_n hx hb dX5_init_64 rfl (lv_at hl 0 rfl) ?_
  refine lv_iload_n hx hb dX5_init_65 rfl (lv_at hl 0 rfl) ?_
  refine e_iast (k := 0) (y := (0)) (w2 := [(h0, .inr (5, [.ref q1, .ref q2, .ref q3, .ref q4, .ref q5, .ref q6])), (q1, .inl (X.2.2 0, 30, .inl (fun _ => 0))), (q2, .inl (X.2.2 0, 30, .inl (fun _ => 0))), (q3, .inl (X.2.2 1, 30, .inl (fun _ => 0))), (q4, .inl (X.2.2 0, 30, .inl (fun _ => 0))), (q5, .inl (X.2.2 0, 30, .inl (fun _ => 0))), (q6, .inl (X.2.2 0, 6, .inl (upd (fun _ => 0) 0 (0))))]) hE hG 6 rfl rfl (by decide) rfl (by unfold vp_in; decide) dX5_init_66 (fun H locs hG => ?_)
  refine lv_iinc (v := 1) (lv' := [(1, .int (1 : Int32)), (0, .ref h0)]) hx hb dX5_init_67 hl (k := 0) rfl (by decide) (by decide) rfl (fun ls hl => ?_)
  refine lv_goto (tgt := 54) hx hb dX5_init_70 (by decide) ?_
  refine lv_iload_n hx hb dX5_init_54 rfl (lv_at hl 0 rfl) ?_
  refine lv_bipush (v := (6)) hx hb dX5_init_55 (by decide) ?_
  refine lv_icmp_ge (tgt := 73) hx hb dX5_init_57 (by decide) (fun h => absurd h (by decide)) (fun _ => ?_)
  refine lv_aload_n hx hb dX5_init_60 rfl (lv_at hl 1 rfl) ?_
  refine e_get (k := 5) hE hG 0 rfl rfl (by decide +kernel) (by decide) (by decide +kernel) rfl rfl dX5_init_61 ?_
  refine lv_iload_n hx hb dX5_init_64 rfl (lv_at hl 0 rfl) ?_
  refine lv_iload_n hx hb dX5_init_65 rfl (lv_at hl 0 rfl) ?_
  refine e_iast (k := 1) (y := (1)) (w2 := [(h0, .inr (5, [.ref q1, .ref q2, .ref q3, .ref q4, .ref q5, .ref q6])), (q1, .inl (X.2.2 0, 30, .inl (fun _ => 0))), (q2, .inl (X.2.2 0, 30, .inl (fun _ => 0))), (q3, .inl (X.2.2 1, 30, .inl (fun _ => 0))), (q4, .inl (X.2.2 0, 30, .inl (fun _ => 0))), (q5, .inl (X.2.2 0, 30, .inl (fun _ => 0))), (q6, .inl (X.2.2 0, 6, .inl (upd (upd (fun _ => 0) 0 (0)) 1 (1))))]) hE hG 6 rfl rfl (by decide) rfl (by unfold vp_in; decide) dX5_init_66 (fun H locs hG => ?_)
  refine lv_iinc (v := 2) (lv' := [(1, .int (2 : Int32)), (0, .ref h0)]) hx hb dX5_init_67 hl (k := 0) rfl (by decide) (by decide) rfl (fun ls hl => ?_)
  refine lv_goto (tgt := 54) hx hb dX5_init_70 (by decide) ?_
  refine lv_iload_n hx hb dX5_init_54 rfl (lv_at hl 0 rfl) ?_
  refine lv_bipush (v := (6)) hx hb dX5_init_55 (by decide) ?_
  refine lv_icmp_ge (tgt := 73) hx hb dX5_init_57 (by decide) (fun h => absurd h (by decide)) (fun _ => ?_)
  refine lv_aload_n hx hb dX5_init_60 rfl (lv_at hl 1 rfl) ?_
  refine e_get (k := 5) hE hG 0 rfl rfl (by decide +kernel) (by decide) (by decide +kernel) rfl rfl dX5_init_61 ?_
  refine lv_iload_n hx hb dX5_init_64 rfl (lv_at hl 0 rfl) ?_
  refine lv_iload_n hx hb dX5_init_65 rfl (lv_at hl 0 rfl) ?_
  refine e_iast (k := 2) (y := (2)) (w2 := [(h0, .inr (5, [.ref q1, .ref q2, .ref q3, .ref q4, .ref q5, .ref q6])), (q1, .inl (X.2.2 0, 30, .inl (fun _ => 0))), (q2, .inl (X.2.2 0, 30, .inl (fun _ => 0))), (q3, .inl (X.2.2 1, 30, .inl (fun _ => 0))), (q4, .inl (X.2.2 0, 30, .inl (fun _ => 0))), (q5, .inl (X.2.2 0, 30, .inl (fun _ => 0))), (q6, .inl (X.2.2 0, 6, .inl (upd (upd (upd (fun _ => 0) 0 (0)) 1 (1)) 2 (2))))]) hE hG 6 rfl rfl (by decide) rfl (by unfold vp_in; decide) dX5_init_66 (fun H locs hG => ?_)
  refine lv_iinc (v := 3) (lv' := [(1, .int (3 : Int32)), (0, .ref h0)]) hx hb dX5_init_67 hl (k := 0) rfl (by decide) (by decide) rfl (fun ls hl => ?_)
  refine lv_goto (tgt := 54) hx hb dX5_init_70 (by decide) ?_
  refine lv_iload_n hx hb dX5_init_54 rfl (lv_at hl 0 rfl) ?_
  refine lv_bipush (v := (6)) hx hb dX5_init_55 (by decide) ?_
  refine lv_icmp_ge (tgt := 73) hx hb dX5_init_57 (by decide) (fun h => absurd h (by decide)) (fun _ => ?_)
  refine lv_aload_n hx hb dX5_init_60 rfl (lv_at hl 1 rfl) ?_
  refine e_get (k := 5) hE hG 0 rfl rfl (by decide +kernel) (by decide) (by decide +kernel) rfl rfl dX5_init_61 ?_
  refine lv_iload_n hx hb dX5_init_64 rfl (lv_at hl 0 rfl) ?_
  refine lv_iload_n hx hb dX5_init_65 rfl (lv_at hl 0 rfl) ?_
  refine e_iast (k := 3) (y := (3)) (w2 := [(h0, .inr (5, [.ref q1, .ref q2, .ref q3, .ref q4, .ref q5, .ref q6])), (q1, .inl (X.2.2 0, 30, .inl (fun _ => 0))), (q2, .inl (X.2.2 0, 30, .inl (fun _ => 0))), (q3, .inl (X.2.2 1, 30, .inl (fun _ => 0))), (q4, .inl (X.2.2 0, 30, .inl (fun _ => 0))), (q5, .inl (X.2.2 0, 30, .inl (fun _ => 0))), (q6, .inl (X.2.2 0, 6, .inl (upd (upd (upd (upd (fun _ => 0) 0 (0)) 1 (1)) 2 (2)) 3 (3))))]) hE hG 6 rfl rfl (by decide) rfl (by unfold vp_in; decide) dX5_init_66 (fun H locs hG => ?_)
  refine lv_iinc (v := 4) (lv' := [(1, .int (4 : Int32)), (0, .ref h0)]) hx hb dX5_init_67 hl (k := 0) rfl (by decide) (by decide) rfl (fun ls hl => ?_)
  refine lv_goto (tgt := 54) hx hb dX5_init_70 (by decide) ?_
  refine lv_iload_n hx hb dX5_init_54 rfl (lv_at hl 0 rfl) ?_
  refine lv_bipush (v := (6)) hx hb dX5_init_55 (by decide) ?_
  refine lv_icmp_ge (tgt := 73) hx hb dX5_init_57 (by decide) (fun h => absurd h (by decide)) (fun _ => ?_)
  refine lv_aload_n hx hb dX5_init_60 rfl (lv_at hl 1 rfl) ?_
  refine e_get (k := 5) hE hG 0 rfl rfl (by decide +kernel) (by decide) (by decide +kernel) rfl rfl dX5_init_61 ?_
  refine lv_iload_n hx hb dX5_init_64 rfl (lv_at hl 0 rfl) ?_
  refine lv_iload_n hx hb dX5_init_65 rfl (lv_at hl 0 rfl) ?_
  refine e_iast (k := 4) (y := (4)) (w2 := [(h0, .inr (5, [.ref q1, .ref q2, .ref q3, .ref q4, .ref q5, .ref q6])), (q1, .inl (X.2.2 0, 30, .inl (fun _ => 0))), (q2, .inl (X.2.2 0, 30, .inl (fun _ => 0))), (q3, .inl (X.2.2 1, 30, .inl (fun _ => 0))), (q4, .inl (X.2.2 0, 30, .inl (fun _ => 0))), (q5, .inl (X.2.2 0, 30, .inl (fun _ => 0))), (q6, .inl (X.2.2 0, 6, .inl (upd (upd (upd (upd (upd (fun _ => 0) 0 (0)) 1 (1)) 2 (2)) 3 (3)) 4 (4))))]) hE hG 6 rfl rfl (by decide) rfl (by unfold vp_in; decide) dX5_init_66 (fun H locs hG => ?_)
  refine lv_iinc (v := 5) (lv' := [(1, .int (5 : Int32)), (0, .ref h0)]) hx hb dX5_init_67 hl (k := 0) rfl (by decide) (by decide) rfl (fun ls hl => ?_)
  refine lv_goto (tgt := 54) hx hb dX5_init_70 (by decide) ?_
  refine lv_iload_n hx hb dX5_init_54 rfl (lv_at hl 0 rfl) ?_
  refine lv_bipush (v := (6)) hx hb dX5_init_55 (by decide) ?_
  refine lv_icmp_ge (tgt := 73) hx hb dX5_init_57 (by decide) (fun h => absurd h (by decide)) (fun _ => ?_)
  refine lv_aload_n hx hb dX5_init_60 rfl (lv_at hl 1 rfl) ?_
  refine e_get (k := 5) hE hG 0 rfl rfl (by decide +kernel) (by decide) (by decide +kernel) rfl rfl dX5_init_61 ?_
  refine lv_iload_n hx hb dX5_init_64 rfl (lv_at hl 0 rfl) ?_
  refine lv_iload_n hx hb dX5_init_65 rfl (lv_at hl 0 rfl) ?_
  refine e_iast (k := 5) (y := (5)) (w2 := [(h0, .inr (5, [.ref q1, .ref q2, .ref q3, .ref q4, .ref q5, .ref q6])), (q1, .inl (X.2.2 0, 30, .inl (fun _ => 0))), (q2, .inl (X.2.2 0, 30, .inl (fun _ => 0))), (q3, .inl (X.2.2 1, 30, .inl (fun _ => 0))), (q4, .inl (X.2.2 0, 30, .inl (fun _ => 0))), (q5, .inl (X.2.2 0, 30, .inl (fun _ => 0))), (q6, .inl (X.2.2 0, 6, .inl (upd (upd (upd (upd (upd (upd (fun _ => 0) 0 (0)) 1 (1)) 2 (2)) 3 (3)) 4 (4)) 5 (5))))]) hE hG 6 rfl rfl (by decide) rfl (by unfold vp_in; decide) dX5_init_66 (fun H locs hG => ?_)
  refine lv_iinc (v := 6) (lv' := [(1, .int (6 : Int32)), (0, .ref h0)]) hx hb dX5_init_67 hl (k := 0) rfl (by decide) (by decide) rfl (fun ls hl => ?_)
  refine lv_goto (tgt := 54) hx hb dX5_init_70 (by decide) ?_
  refine lv_iload_n hx hb dX5_init_54 rfl (lv_at hl 0 rfl) ?_
  refine lv_bipush (v := (6)) hx hb dX5_init_55 (by decide) ?_
  refine lv_icmp_ge (tgt := 73) hx hb dX5_init_57 (by decide) (fun _ => ?_) (fun h => absurd (by decide) h)
  exact e_vret (fun j => ([q1, q2, q3, q4, q5, q6] : List Nat).getD j 0) hE hG hr hlk dX5_init_73 rfl
