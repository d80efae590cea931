/-! all calls keep the two sides together (wip/gen/start18.py) -/
theorem sj_set {σ μ : St} (h : RR σ μ) : sm_set RR σ μ := fun a b c d => (j_set h a b c d).sm
theorem sj_turn {σ μ : St} (h : RR σ μ) : sm_turn RR σ μ := fun a b => (j_turn h a b).sm
theorem sj_copy {σ μ : St} (h : RR σ μ) : sm_copy RR σ μ := fun a b => (j_copy h a b).sm
theorem sj_law {σ μ : St} (h : RR σ μ) : sm_law RR σ μ := fun a b c d => (j_law h a b c d).sm
theorem sj_repeal {σ μ : St} (h : RR σ μ) : sm_repeal RR σ μ := (j_repeal h).sm
theorem sj_pace {σ μ : St} (h : RR σ μ) : sm_pace RR σ μ := fun a => (j_pace h a).sm
theorem sj_fastest {σ μ : St} (h : RR σ μ) : sm_fastest RR σ μ := (j_fastest h).sm
theorem sj_act {σ μ : St} (h : RR σ μ) : sm_act RR σ μ := fun a b c d => (j_act h a b c d).sm
theorem sj_would {σ μ : St} (h : RR σ μ) : sm_would RR σ μ := fun a b c d => (j_would h a b c d).sm
theorem sj_arm {σ μ : St} (h : RR σ μ) : sm_arm RR σ μ := fun a => (j_arm h a).sm
theorem sj_knot {σ μ : St} (h : RR σ μ) : sm_knot RR σ μ := fun a b => (j_knot h a b).sm
theorem sj_forget {σ μ : St} (h : RR σ μ) : sm_forget RR σ μ := (j_forget h).sm
theorem sj_place {σ μ : St} (h : RR σ μ) : sm_place RR σ μ := fun a b c => (j_place h a b c).sm
theorem sj_nearest {σ μ : St} (h : RR σ μ) : sm_nearest RR σ μ := fun a b => (j_nearest h a b).sm
theorem sj_stop {σ μ : St} (h : RR σ μ) : sm_stop RR σ μ := fun a => (j_stop h a).sm
theorem sj_start {σ μ : St} (h : RR σ μ) : sm_start RR σ μ := fun a => (j_start h a).sm
theorem sj_job {σ μ : St} (h : RR σ μ) : sm_job RR σ μ := fun a b => (j_job h a b).sm
theorem sj_aim {σ μ : St} (h : RR σ μ) : sm_aim RR σ μ := fun a b c => (j_aim h a b c).sm
theorem sj_glass {σ μ : St} (h : RR σ μ) : sm_glass RR σ μ := fun a b => (j_glass h a b).sm
theorem sj_mould {σ μ : St} (h : RR σ μ) : sm_mould RR σ μ := fun a b => (j_mould h a b).sm
theorem sj_swab {σ μ : St} (h : RR σ μ) : sm_swab RR σ μ := fun a => (j_swab h a).sm
theorem sj_repair {σ μ : St} (h : RR σ μ) : sm_repair RR σ μ := fun a => (j_repair h a).sm
theorem sj_pull {σ μ : St} (h : RR σ μ) : sm_pull RR σ μ := fun a b hb => (j_pull h a b hb).sm
theorem sj_rule {σ μ : St} (h : RR σ μ) : sm_rule RR σ μ := fun a b => (j_rule h a b).sm
theorem sj_book {σ μ : St} (h : RR σ μ) : sm_book RR σ μ := fun a b => (j_book h a b).sm
theorem sj_cut {σ μ : St} (h : RR σ μ) : sm_cut RR σ μ := fun a => (j_cut h a).sm
theorem sj_drain {σ μ : St} (h : RR σ μ) : sm_drain RR σ μ := (j_drain h).sm
theorem sj_bottle {σ μ : St} (h : RR σ μ) : sm_bottle RR σ μ := fun a b => (j_bottle h a b).sm
theorem sj_many {σ μ : St} (h : RR σ μ) : sm_many RR σ μ := fun a => (j_many h a).sm
theorem SIM_RR : SIM RR := fun σ μ h => ⟨sj_set h, sj_turn h, sj_copy h, sj_law h, sj_repeal h, sj_pace h, sj_fastest h, sj_act h, sj_would h, sj_arm h, sj_knot h, sj_forget h, sj_place h, sj_nearest h, sj_stop h, sj_start h, sj_job h, sj_aim h, sj_glass h, sj_mould h, sj_swab h, sj_repair h, sj_pull h, sj_rule h, sj_book h, sj_cut h, sj_drain h, sj_bottle h, sj_many h⟩
/-! what the tables say at the law's entry -/
theorem kx_in {w : Cond} {i : Nat} (h : tables_1[i]? = some w) : w ∈ lw_tbl := List.mem_append_right _ (List.mem_of_getElem? h)
theorem kx_arr {args : Array Value} {s : State} {t : FieldType} (h : (Cond.arrayClass t).before args s = true) : ∃ cA : ClassId, ArrOfT s cA t ∧ s.vm.findClass ("[" ++ t.toString) = some cA := by
  obtain ⟨cA, kA, comp, h1, h2, h3⟩ := Cond.arrayClass_spec h
  exact ⟨cA, fun n z => ⟨fun k h => (by cases h), kA, h2, comp, h3⟩, h1⟩
theorem kx_over {args : Array Value} {s : State} {C : String} (h : (Cond.arrayOver (.object C)).before args s = true) : ∃ cA : ClassId, ArrOfT s cA (.object C) ∧ va_RA s cA (.object C) := by
  obtain ⟨comp, cA, kA, f4, -, f2, f3, f1⟩ := Cond.arrayOver_spec h
  exact ⟨cA, fun n z => ⟨fun k h => (by cases h), kA, f2, comp, f3⟩, kA, comp, f2, f3, f4, f1⟩
set_option maxHeartbeats 4000000 in
set_option maxRecDepth 20000 in
theorem kX_start {args : Array Value} {s : State} (hts : ∀ w ∈ lw_tbl, w.before args s = true) : ∃ (D : va_G) (cy : Nat → ClassId), ∀ ad : Nat → Nat, kX (D, ad, cy) s := by
  obtain ⟨c0, i0, k0⟩ := u_known (C := RX0) (T := TX0) (N := 3) (n := 3) hts inX0 (hts (.instantiable RX0 3) (kx_in (i := 175) (by decide +kernel)))
  obtain ⟨c1, i1, k1⟩ := u_known (C := RX1) (T := TX1) (N := 7) (n := 7) hts inX1 (hts (.instantiable RX1 7) (kx_in (i := 182) (by decide +kernel)))
  obtain ⟨c2, i2, k2⟩ := u_known (C := RX2) (T := TX2) (N := 2) (n := 2) hts inX2 (hts (.instantiable RX2 2) (kx_in (i := 31) (by decide +kernel)))
  obtain ⟨c3, i3, k3⟩ := u_known (C := RX3) (T := TX3) (N := 5) (n := 5) hts inX3 (hts (.instantiable RX3 5) (kx_in (i := 22) (by decide +kernel)))
  obtain ⟨c4, i4, k4⟩ := u_known (C := RX4) (T := TX4) (N := 3) (n := 3) hts inX4 (hts (.instantiable RX4 3) (kx_in (i := 94) (by decide +kernel)))
  obtain ⟨c5, i5, k5⟩ := u_known (C := RX5) (T := TX5) (N := 6) (n := 6) hts inX5 (hts (.instantiable RX5 6) (kx_in (i := 143) (by decide +kernel)))
  obtain ⟨c6, i6, k6⟩ := u_known (C := RX6) (T := TX6) (N := 3) (n := 3) hts inX6 (hts (.instantiable RX6 3) (kx_in (i := 126) (by decide +kernel)))
  obtain ⟨c7, i7, k7⟩ := u_known (C := RX7) (T := TX7) (N := 2) (n := 2) hts inX7 (hts (.instantiable RX7 2) (kx_in (i := 87) (by decide +kernel)))
  obtain ⟨c8, i8, k8⟩ := u_known (C := RX8) (T := TX8) (N := 4) (n := 4) hts inX8 (hts (.instantiable RX8 4) (kx_in (i := 48) (by decide +kernel)))
  obtain ⟨c9, i9, k9⟩ := u_known (C := RX9) (T := TX9) (N := 15) (n := 15) hts inX9 (hts (.instantiable RX9 15) (kx_in (i := 14) (by decide +kernel)))
  obtain ⟨c10, i10, k10⟩ := u_known (C := RX10) (T := TX10) (N := 45) (n := 45) hts inX10 (hts (.instantiable RX10 45) (kx_in (i := 617) (by decide +kernel)))
  obtain ⟨y0, a0, f0⟩ := kx_arr (hts (.arrayClass .int) (kx_in (i := 47) (by decide +kernel)))
  obtain ⟨y1, a1, f1⟩ := kx_arr (hts (.arrayClass .boolean) (kx_in (i := 173) (by decide +kernel)))
  obtain ⟨y2, a2, f2⟩ := kx_over (hts (.arrayOver (.object RX2)) (kx_in (i := 28) (by decide +kernel)))
  obtain ⟨y3, a3, f3⟩ := kx_over (hts (.arrayOver (.object RX8)) (kx_in (i := 30) (by decide +kernel)))
  obtain ⟨y4, a4, f4⟩ := kx_over (hts (.arrayOver (.object RX4)) (kx_in (i := 93) (by decide +kernel)))
  obtain ⟨y5, a5, f5⟩ := kx_over (hts (.arrayOver (.object RX1)) (kx_in (i := 181) (by decide +kernel)))
  refine ⟨(fun k => if k = 0 then c0 else if k = 1 then c1 else if k = 2 then c2 else if k = 3 then c3 else if k = 4 then c4 else if k = 5 then c5 else if k = 6 then c6 else if k = 7 then c7 else if k = 8 then c8 else if k = 9 then c9 else c10, fun k => if k = 0 then i0 else if k = 1 then i1 else if k = 2 then i2 else if k = 3 then i3 else if k = 4 then i4 else if k = 5 then i5 else if k = 6 then i6 else if k = 7 then i7 else if k = 8 then i8 else if k = 9 then i9 else i10), fun k => if k = 0 then y0 else if k = 1 then y1 else if k = 2 then y2 else if k = 3 then y3 else if k = 4 then y4 else y5, fun ad => ⟨⟨fun k q hq => ?_, fun k q hq => ?_⟩, va_Nw.of rfl (hts (.methodLinkNest RX8 33 yX9_wayUp "GobRow") (kx_in (i := 308) (by decide +kernel))), va_Nw.of rfl (hts (.methodLinkNest RX2 24 yX9_wayUp "GobRow") (kx_in (i := 315) (by decide +kernel))), va_Nw.of rfl (hts (.methodLinkNest RX4 32 yX9_wayUp "GobRow") (kx_in (i := 435) (by decide +kernel))), va_Nw.of rfl (hts (.methodLinkNest RX3 35 yX8_init "GobRow") (kx_in (i := 49) (by decide +kernel))), va_Nw.of rfl (hts (.methodLinkNest RX7 17 yX4_init "GobRow") (kx_in (i := 95) (by decide +kernel))), va_Nw.of rfl (hts (.methodLinkNest RX0 24 yX1_init "GobRow") (kx_in (i := 183) (by decide +kernel))), va_AO.of (hts (.arrayOver (.object RX2)) (kx_in (i := 28) (by decide +kernel))), va_AO.of (hts (.arrayOver (.object RX8)) (kx_in (i := 30) (by decide +kernel))), va_AO.of (hts (.arrayOver (.object RX4)) (kx_in (i := 93) (by decide +kernel))), va_AO.of (hts (.arrayOver (.object RX1)) (kx_in (i := 181) (by decide +kernel)))⟩⟩
  · have hk : k < 11 := (List.getElem?_eq_some_iff.mp hq).1
    rcases (show k = 0 ∨ k = 1 ∨ k = 2 ∨ k = 3 ∨ k = 4 ∨ k = 5 ∨ k = 6 ∨ k = 7 ∨ k = 8 ∨ k = 9 ∨ k = 10 by omega) with rfl | rfl | rfl | rfl | rfl | rfl | rfl | rfl | rfl | rfl | rfl
    · obtain rfl := Option.some.inj (show some (RX0, TX0, 3) = some q from hq)
      exact k0
    · obtain rfl := Option.some.inj (show some (RX1, TX1, 7) = some q from hq)
      exact k1
    · obtain rfl := Option.some.inj (show some (RX2, TX2, 2) = some q from hq)
      exact k2
    · obtain rfl := Option.some.inj (show some (RX3, TX3, 5) = some q from hq)
      exact k3
    · obtain rfl := Option.some.inj (show some (RX4, TX4, 3) = some q from hq)
      exact k4
    · obtain rfl := Option.some.inj (show some (RX5, TX5, 6) = some q from hq)
      exact k5
    · obtain rfl := Option.some.inj (show some (RX6, TX6, 3) = some q from hq)
      exact k6
    · obtain rfl := Option.some.inj (show some (RX7, TX7, 2) = some q from hq)
      exact k7
    · obtain rfl := Option.some.inj (show some (RX8, TX8, 4) = some q from hq)
      exact k8
    · obtain rfl := Option.some.inj (show some (RX9, TX9, 15) = some q from hq)
      exact k9
    · obtain rfl := Option.some.inj (show some (RX10, TX10, 45) = some q from hq)
      exact k10
  · have hk : k < 6 := (List.getElem?_eq_some_iff.mp hq).1
    rcases (show k = 0 ∨ k = 1 ∨ k = 2 ∨ k = 3 ∨ k = 4 ∨ k = 5 by omega) with rfl | rfl | rfl | rfl | rfl | rfl
    · obtain rfl := Option.some.inj (show some (y0, FieldType.int) = some q from hq)
      exact ⟨a0, f0⟩
    · obtain rfl := Option.some.inj (show some (y1, FieldType.boolean) = some q from hq)
      exact ⟨a1, f1⟩
    · obtain rfl := Option.some.inj (show some (y2, FieldType.object RX2) = some q from hq)
      exact ⟨a2, f2⟩
    · obtain rfl := Option.some.inj (show some (y3, FieldType.object RX8) = some q from hq)
      exact ⟨a3, f3⟩
    · obtain rfl := Option.some.inj (show some (y4, FieldType.object RX4) = some q from hq)
      exact ⟨a4, f4⟩
    · obtain rfl := Option.some.inj (show some (y5, FieldType.object RX1) = some q from hq)
      exact ⟨a5, f5⟩
