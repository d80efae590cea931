/-! THE LAW, from its entry (wip/gen/start18.py) -/
theorem inL9 : ∀ w ∈ u_ws RX9 TX9 15, w ∈ wsL_law := by
  intro w h
  unfold wsL_law
  exact List.mem_append_left _ (List.mem_append_left _ (List.mem_append_left _ (List.mem_append_left _ (List.mem_append_left _ (List.mem_append_left _ (List.mem_append_left _ (List.mem_append_left _ (List.mem_append_left _ (List.mem_append_left _ (List.mem_append_left _ (List.mem_append_right _ h)))))))))))
theorem inL10 : ∀ w ∈ u_ws RX10 TX10 45, w ∈ wsL_law := by
  intro w h
  unfold wsL_law
  exact List.mem_append_left _ (List.mem_append_left _ (List.mem_append_left _ (List.mem_append_left _ (List.mem_append_left _ (List.mem_append_left _ (List.mem_append_left _ (List.mem_append_left _ (List.mem_append_left _ (List.mem_append_left _ (List.mem_append_right _ h))))))))))
theorem pw_l {D : va_G} {cl : List vw_C} {a b : va_W} {H : Heap} (h : va_P D cl (a ++ b) H) : va_P D cl a H := fun k q hk => h k q (by rw [List.getElem?_append_left (List.getElem?_eq_some_iff.mp hk).1]; exact hk)
theorem pw_r {D : va_G} {cl : List vw_C} {a b : va_W} {H : Heap} (h : va_P D cl (a ++ b) H) : va_P D cl b H := fun k q hk => h _ q (app_r hk)
theorem wsl_len {X : wX} {kL : List Nat} {σ : St} : (wsl X kL σ).length = kL.length := by
  unfold wsl
  rw [List.length_map, List.length_range]
section LawM
variable {p : Program} {l : Launch} {e : Env} {R : Room} {s : State} {m : MethodId} {args : Array Value} {below : List Frame} {meth : Method} {c : Code} {H : Heap} {locs : List Loc} {cells slots : Nat} {Q : State → Prop}
variable {cc : ByteArray} {pc nL : Nat} {ls : Array Slot} {rest : List Value} {X : wX} {A : Nat → Prop} {H0 : Heap} {Ts : List Cond} {own : String} {a : Nat}
variable {y : MethodName} {bytes : ByteArray} {maxL index mc ms : Nat} {wd wd' : List Cond} {rm : Room} {σ : St} {x0 : va_E}
/-- the reference is made, beside the class's world -/
theorem l_initM (hE : eV p m c cc nL s args Ts own X) (hG : gE X A H0 (wsl X kcL σ ++ [(a, x0)]) H locs) {Qm : St → Prop} (hM : mN X l y wd rm a [(a, x0)] Qm mc ms) (hg : GoodIn Ts wd) (hw : wd = Cond.code y bytes maxL none :: wd') (hrc : rm.cells = mc) (hrs : rm.slots = ms) (hini : Cond.initialized y.cls ∈ Ts) (hlk : Cond.methodLink own index y ∈ Ts) (hins : Cond.instanceMethod y ∈ Ts) (hy1 : y.name = "<init>") (hd : y.cls ≠ "java/lang/invoke/MethodHandle" ∧ y.cls ≠ "java/lang/invoke/VarHandle" ∧ (parseMethodDescriptor y.desc).map (fun d => d.parameters.length) = some 0) (hRm : rm.frames + 1 ≤ R.frames ∧ 8 + (maxL + 11) + rm.locals ≤ R.locals) (hls : ls.size = nL) (hroom : (rest.map fun v => v.category).sum ≤ 8) (hdg : decode cc pc = .ok (.invokespecial index, 3)) (hcs : cells + mc ≤ R.cells ∧ slots + ms ≤ R.slots)
    (kk : ∀ (ay : Nat → Nat) (μ : St) (H1 : Heap) (locs1 : List Loc), ay 0 = a → Qm μ → gL X ay A H0 σ μ H1 locs1 → W p l e R s m args below meth c H1 locs1 (cells + mc) (slots + ms) Q (F0 m (pc + 3) ls rest)) : W p l e R s m args below meth c H locs cells slots Q (F0 m pc ls (.ref a :: rest)) := by
  have h82 : (wsl X kcL σ).length = 82 := wsl_len
  have h0 : (wsl X kcL σ ++ [(a, x0)])[82]? = some (a, x0) := by
    rw [List.getElem?_append_right (by omega), h82]
    rfl
  have hC : [82].map (fun i => (wsl X kcL σ ++ [(a, x0)])[i]?) = [(a, x0)].map some := by
    show [(wsl X kcL σ ++ [(a, x0)])[82]?] = [some (a, x0)]
    rw [h0]
  have hR : (List.range 82).map (fun i => (wsl X kcL σ ++ [(a, x0)])[i]?) = (wsl X kcL σ).map some := by
    apply List.ext_getElem?
    intro k
    rw [List.getElem?_map, List.getElem?_map]
    by_cases hk : k < 82
    · rw [List.getElem?_range hk]
      show some ((wsl X kcL σ ++ [(a, x0)])[k]?) = _
      rw [List.getElem?_append_left (by omega), wsl_get (show k < kcL.length from hk)]
      rfl
    · rw [List.getElem?_eq_none (by rw [List.length_range]; omega), List.getElem?_eq_none (by omega)]
      rfl
  have hn : va_nd (List.range 82) = true := by decide +kernel
  have hdis : ∀ i ∈ List.range 82, i ∉ [82] := by decide +kernel
  have hP0 : va_P X.1 vwCl [(a, x0)] H := P_cons (hG.1 82 _ h0) P_nil
  have hF := va_free (wc := [(a, x0)]) hG.2.1 hG.2.2.1 hG.2.2.2 [82] hC
  refine va_callv (va_runI (As := []) hE.1 (hM H.size) (cwI 0 hE.1.2.2.2.2 hg hw hrc hrs (hE.1.2.2.2.2 _ hini) (hE.1.2.2.2.2 _ hlk) (hE.1.2.2.2.2 _ hins) hy1 hd hRm) (pE_pre hE.2 hP0 (hG.2.1.sub [82] (by decide) hC)) rfl rfl hls rfl (lv_room hroom) hdg hcs) hG.2.2.1 (fun q _ h => hF q h) hF (fun u t H1 locs1 ht _ hpo hB _ hk hS => ?_)
  obtain ⟨hP1, hD1⟩ := hB
  rw [ht] at hP1
  obtain ⟨h1, h2⟩ := va_join (wr := wsl X kcL σ) (w1 := wsl (X.1, u.1, X.2.2) kmL u.2) hG.1 hG.2.1 [82] (List.range 82) hC hR hn hdis hk hF hP1 hD1
  exact kk u.1 u.2 H1 locs1 hpo.1 hpo.2 ⟨pw_l h1, pw_r h1, h2, hS, hG.2.2.2⟩
end LawM
set_option maxHeartbeats 8000000 in
set_option maxRecDepth 100000 in
theorem whole_start {p : Program} {e : Env} {s : State} {m : MethodId} {below : List Frame} {meth : Method} {c : Code} (l : Launch) {b L : Nat} {xs : Nat → Int32} (hL : L ≤ 2560) (C0 : lw_At p s m meth c b L xs) : W p l e room_1 s m #[Value.ref b] below meth c s.heap [] 0 0 (lw_Z below #[Value.ref b] s) (entryFrame m ([Value.ref b] : List Value).toArray 4) := by
  obtain ⟨hx, hb, hr, hml, hown, hts, hX, hbl, hlk, hgv⟩ := id C0
  obtain ⟨D, cy, hK⟩ := kX_start hts
  have hE : ∀ ad : Nat → Nat, eV p m c code 4 s #[Value.ref b] wsL_law RL (D, ad, cy) := fun ad => ⟨⟨hx, hb, hml, hown, fun w h => hts w (wsL_law_in w h)⟩, hK ad⟩
  have hl := lv_entry ([.ref b]) (n := 4) (Nat.le_of_ble_eq_true rfl)
  rw [lg_entry_eq]
  generalize (lg_sl ([.ref b]) ++ List.replicate (4 - (lg_sl ([.ref b])).length) Slot.unset).toArray = ls at hl ⊢
  have hl : lv_has ls 4 [(0, .ref b)] := hl
  have hG : gE (D, (fun _ => 0), cy) (fun q : Nat => s.heap.size ≤ q) s.heap [] s.heap [] := ⟨fun k q h => (by cases h), ⟨fun i j p q h => (by cases h), fun k q h => (by cases h)⟩, va_S.rf, fun _ h => h⟩
  refine e_new (ci := 9) (fs := [.null, .null, .null, .null, .null, .null, .null, .null, .null, .int 0, .int 0, .int 0, .int 0, .int 0, .int 0]) (hE _) hG inL9 tyX9 tyX9_ok (by decide +kernel) (by decide +kernel) (by decide +kernel) rfl (fun j hj => by rcases (show j = 0 ∨ j = 1 ∨ j = 2 ∨ j = 3 ∨ j = 4 ∨ j = 5 ∨ j = 6 ∨ j = 7 ∨ j = 8 ∨ j = 9 ∨ j = 10 ∨ j = 11 ∨ j = 12 ∨ j = 13 ∨ j = 14 by omega) with rfl | rfl | rfl | rfl | rfl | rfl | rfl | rfl | rfl | rfl | rfl | rfl | rfl | rfl | rfl <;> rfl) (Nat.le_of_ble_eq_true rfl) (Nat.le_of_ble_eq_true rfl) dL_law_0 (fun q0 H hG => ?_)
  have hG : gE (D, (fun _ => 0), cy) (fun q : Nat => s.heap.size ≤ q) s.heap [(q0, .inr (9, [.null, .null, .null, .null, .null, .null, .null, .null, .null, .int 0, .int 0, .int 0, .int 0, .int 0, .int 0]))] H _ := hG
  refine lv_dup hx hb dL_law_3 rfl ?_
  refine e_init (rm := { frames := 3, cells := 81, slots := 573, locals := 54 }) (mc := 81) (ms := 573) (rest := [.ref q0]) (wr := []) (hE _) hG [0] [] (i_X9_init l _ q0) gL_law_X9_init rfl rfl rfl (by decide +kernel) (by decide +kernel) (by decide +kernel) rfl (by decide +kernel) ⟨Nat.le_of_ble_eq_true rfl, Nat.le_of_ble_eq_true rfl⟩ hl.1 (Nat.le_of_ble_eq_true rfl) dL_law_4 ⟨Nat.le_of_ble_eq_true rfl, Nat.le_of_ble_eq_true rfl⟩ rfl rfl rfl rfl (by decide) (fun u H locs hG => ?_)
  have hG : gE (D, (fun _ => 0), cy) (fun q : Nat => s.heap.size ≤ q) s.heap (W9 (D, (fun _ => 0), cy) q0 u) H locs := hG
  have hG : gE (D, hXc q0 u, cy) (fun q : Nat => s.heap.size ≤ q) s.heap (wsl (D, hXc q0 u, cy) kcL sIni) H locs := ⟨W9_P hG.1, W9_D hG.2.1, hG.2.2.1, hG.2.2.2⟩
  refine lv_astore_n (lv' := [(1, .ref q0), (0, .ref b)]) hx hb dL_law_7 rfl hl (by decide) rfl (fun ls hl => ?_)
  refine e_new (ci := 10) (fs := [.null, .null, .int 0, .null, .null, .null, .null, .int 0, .null, .null, .null, .int 0, .null, .null, .int 0, .null, .int 0, .null, .null, .null, .null, .null, .null, .null, .null, .null, .int 0, .int 0, .int 0, .int 0, .int 0, .int 0, .int 0, .null, .null, .null, .null, .null, .null, .null, .null, .int 0, .int 0, .null, .null]) (hE (hXc q0 u)) hG inL10 tyX10 tyX10_ok (by decide +kernel) (by decide +kernel) (by decide +kernel) rfl (fun j hj => by rcases (show j = 0 ∨ j = 1 ∨ j = 2 ∨ j = 3 ∨ j = 4 ∨ j = 5 ∨ j = 6 ∨ j = 7 ∨ j = 8 ∨ j = 9 ∨ j = 10 ∨ j = 11 ∨ j = 12 ∨ j = 13 ∨ j = 14 ∨ j = 15 ∨ j = 16 ∨ j = 17 ∨ j = 18 ∨ j = 19 ∨ j = 20 ∨ j = 21 ∨ j = 22 ∨ j = 23 ∨ j = 24 ∨ j = 25 ∨ j = 26 ∨ j = 27 ∨ j = 28 ∨ j = 29 ∨ j = 30 ∨ j = 31 ∨ j = 32 ∨ j = 33 ∨ j = 34 ∨ j = 35 ∨ j = 36 ∨ j = 37 ∨ j = 38 ∨ j = 39 ∨ j = 40 ∨ j = 41 ∨ j = 42 ∨ j = 43 ∨ j = 44 by omega) with rfl | rfl | rfl | rfl | rfl | rfl | rfl | rfl | rfl | rfl | rfl | rfl | rfl | rfl | rfl | rfl | rfl | rfl | rfl | rfl | rfl | rfl | rfl | rfl | rfl | rfl | rfl | rfl | rfl | rfl | rfl | rfl | rfl | rfl | rfl | rfl | rfl | rfl | rfl | rfl | rfl | rfl | rfl | rfl | rfl <;> rfl) (Nat.le_of_ble_eq_true rfl) (Nat.le_of_ble_eq_true rfl) dL_law_8 (fun q1 H hG => ?_)
  refine lv_dup hx hb dL_law_11 rfl ?_
  refine l_initM (rm := rm_X10_init) (mc := 31) (ms := 494) (rest := [.ref q1]) (hE (hXc q0 u)) hG (i_X10_init l _ q1 m_ini) gL_law_X10_init rfl rfl rfl (by decide +kernel) (by decide +kernel) (by decide +kernel) rfl (by decide +kernel) ⟨Nat.le_of_ble_eq_true rfl, Nat.le_of_ble_eq_true rfl⟩ hl.1 (Nat.le_of_ble_eq_true rfl) dL_law_12 ⟨Nat.le_of_ble_eq_true rfl, Nat.le_of_ble_eq_true rfl⟩ (fun ay μ H2 locs2 e1 hR hG2 => ?_)
  subst e1
  refine lv_astore_n (lv' := [(2, .ref (ay 0)), (1, .ref q0), (0, .ref b)]) hx hb dL_law_15 rfl hl (by decide) rfl (fun ls hl => ?_)
  refine lv_iconst (v := 0) hx hb dL_law_16 (by decide) ?_
  refine lv_istore_n (lv' := [(3, .int 0), (2, .ref (ay 0)), (1, .ref q0), (0, .ref b)]) hx hb dL_law_17 rfl hl (by decide) rfl (fun ls hl => ?_)
  exact law_loop (X := (D, hXc q0 u, cy)) (ay := ay) (RR := RR) (Nat.le_of_ble_eq_true rfl) (Nat.le_of_ble_eq_true rfl) (hE (hXc q0 u)) hX hbl hL hr hlk ⟨Nat.le_of_ble_eq_true rfl, Nat.le_of_ble_eq_true rfl⟩ SIM_RR (L + 1) 0 sIni μ H2 locs2 ls (by omega) hR hG2 (lv_sub hl [3, 2, 1, 0] rfl) (by omega)
