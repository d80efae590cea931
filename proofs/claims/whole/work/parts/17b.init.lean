/-! the class's first world (wip/gen/init17b.py) -/
def W9 (X : wX) (h0 : Nat) (u : Nat → Nat) : va_W := [(h0, .inr (9, [.ref (u 0), .ref (u 40), .ref (u 54), .ref (u 56), .ref (u 63), .ref (u 77), .ref (u 78), .ref (u 79), .ref (u 80), .int (0 : Int32), .int (0 : Int32), .int (500 : Int32), .int (0 : Int32), .int (200 : Int32), .int (0 : Int32)])), ((u 0), .inr (3, [.ref ((u 1)), .ref ((u 2)), .ref ((u 3)), .int (0 : Int32), .int (10 : Int32)])), (((u 1)), .inl (X.2.2 2, 6, .inr (.inr (.inr (.inr (va_up (va_up (va_up (va_up (va_up (va_up (fun _ => none) 0 (some ((u 6)))) 1 (some ((u 9)))) 2 (some ((u 12)))) 3 (some ((u 15)))) 4 (some ((u 18)))) 5 (some ((u 21))))))))), (((u 2)), .inl (X.2.2 3, 16, .inr (.inr (.inr (.inr (va_up (va_up (va_up (va_up (va_up (va_up (va_up (va_up (va_up (va_up (va_up (va_up (va_up (va_up (va_up (va_up (fun _ => none) 0 (some ((u 24)))) 1 (some ((u 25)))) 2 (some ((u 26)))) 3 (some ((u 27)))) 4 (some ((u 28)))) 5 (some ((u 29)))) 6 (some ((u 30)))) 7 (some ((u 31)))) 8 (some ((u 32)))) 9 (some ((u 33)))) 10 (some ((u 34)))) 11 (some ((u 35)))) 12 (some ((u 36)))) 13 (some ((u 37)))) 14 (some ((u 38)))) 15 (some ((u 39))))))))), (((u 3)), .inr (2, [.ref (((u 4))), .ref (((u 5)))])), ((((u 4))), .inl (X.2.2 0, 8, .inl (iniOn))), ((((u 5))), .inl (X.2.2 0, 8, .inl (iniOff))), (((u 6)), .inr (2, [.ref (((u 7))), .ref (((u 8)))])), ((((u 7))), .inl (X.2.2 0, 8, .inl (iniOn))), ((((u 8))), .inl (X.2.2 0, 8, .inl (iniOff))), (((u 9)), .inr (2, [.ref (((u 10))), .ref (((u 11)))])), ((((u 10))), .inl (X.2.2 0, 8, .inl (iniOn))), ((((u 11))), .inl (X.2.2 0, 8, .inl (iniOff))), (((u 12)), .inr (2, [.ref (((u 13))), .ref (((u 14)))])), ((((u 13))), .inl (X.2.2 0, 8, .inl (iniOn))), ((((u 14))), .inl (X.2.2 0, 8, .inl (iniOff))), (((u 15)), .inr (2, [.ref (((u 16))), .ref (((u 17)))])), ((((u 16))), .inl (X.2.2 0, 8, .inl (iniOn))), ((((u 17))), .inl (X.2.2 0, 8, .inl (iniOff))), (((u 18)), .inr (2, [.ref (((u 19))), .ref (((u 20)))])), ((((u 19))), .inl (X.2.2 0, 8, .inl (iniOn))), ((((u 20))), .inl (X.2.2 0, 8, .inl (iniOff))), (((u 21)), .inr (2, [.ref (((u 22))), .ref (((u 23)))])), ((((u 22))), .inl (X.2.2 0, 8, .inl (iniOn))), ((((u 23))), .inl (X.2.2 0, 8, .inl (iniOff))), (((u 24)), .inr (8, [.int (0 : Int32), .int (0 : Int32), .int (0 : Int32), .int (0 : Int32)])), (((u 25)), .inr (8, [.int (0 : Int32), .int (0 : Int32), .int (0 : Int32), .int (0 : Int32)])), (((u 26)), .inr (8, [.int (0 : Int32), .int (0 : Int32), .int (0 : Int32), .int (0 : Int32)])), (((u 27)), .inr (8, [.int (0 : Int32), .int (0 : Int32), .int (0 : Int32), .int (0 : Int32)])), (((u 28)), .inr (8, [.int (0 : Int32), .int (0 : Int32), .int (0 : Int32), .int (0 : Int32)])), (((u 29)), .inr (8, [.int (0 : Int32), .int (0 : Int32), .int (0 : Int32), .int (0 : Int32)])), (((u 30)), .inr (8, [.int (0 : Int32), .int (0 : Int32), .int (0 : Int32), .int (0 : Int32)])), (((u 31)), .inr (8, [.int (0 : Int32), .int (0 : Int32), .int (0 : Int32), .int (0 : Int32)])), (((u 32)), .inr (8, [.int (0 : Int32), .int (0 : Int32), .int (0 : Int32), .int (0 : Int32)])), (((u 33)), .inr (8, [.int (0 : Int32), .int (0 : Int32), .int (0 : Int32), .int (0 : Int32)])), (((u 34)), .inr (8, [.int (0 : Int32), .int (0 : Int32), .int (0 : Int32), .int (0 : Int32)])), (((u 35)), .inr (8, [.int (0 : Int32), .int (0 : Int32), .int (0 : Int32), .int (0 : Int32)])), (((u 36)), .inr (8, [.int (0 : Int32), .int (0 : Int32), .int (0 : Int32), .int (0 : Int32)])), (((u 37)), .inr (8, [.int (0 : Int32), .int (0 : Int32), .int (0 : Int32), .int (0 : Int32)])), (((u 38)), .inr (8, [.int (0 : Int32), .int (0 : Int32), .int (0 : Int32), .int (0 : Int32)])), (((u 39)), .inr (8, [.int (0 : Int32), .int (0 : Int32), .int (0 : Int32), .int (0 : Int32)])), ((u 40), .inr (7, [.ref ((u 41)), .ref ((u 42))])), (((u 41)), .inl (X.2.2 4, 3, .inr (.inr (.inr (.inr (va_up (va_up (va_up (fun _ => none) 0 (some ((u 45)))) 1 (some ((u 48)))) 2 (some ((u 51))))))))), (((u 42)), .inr (4, [.ref (((u 43))), .ref (((u 44))), .int (0 : Int32)])), ((((u 43))), .inl (X.2.2 0, 6, .inl (fun _ => 0))), ((((u 44))), .inl (X.2.2 0, 6, .inl (fun _ => 0))), (((u 45)), .inr (4, [.ref (((u 46))), .ref (((u 47))), .int (1 : Int32)])), ((((u 46))), .inl (X.2.2 0, 6, .inl (upd (fun _ => 0) 0 (0)))), ((((u 47))), .inl (X.2.2 0, 6, .inl (upd (fun _ => 0) 0 (0 : Int32)))), (((u 48)), .inr (4, [.ref (((u 49))), .ref (((u 50))), .int (1 : Int32)])), ((((u 49))), .inl (X.2.2 0, 6, .inl (upd (fun _ => 0) 0 (0)))), ((((u 50))), .inl (X.2.2 0, 6, .inl (upd (fun _ => 0) 0 (300 : Int32)))), (((u 51)), .inr (4, [.ref (((u 52))), .ref (((u 53))), .int (1 : Int32)])), ((((u 52))), .inl (X.2.2 0, 6, .inl (upd (fun _ => 0) 0 (0)))), ((((u 53))), .inl (X.2.2 0, 6, .inl (upd (fun _ => 0) 0 (600 : Int32)))), ((u 54), .inr (6, [.ref ((u 55)), .int (0 : Int32), .int (6 : Int32)])), (((u 55)), .inl (X.2.2 0, 6, .inl (iniSec))), ((u 56), .inr (5, [.ref ((u 57)), .ref ((u 58)), .ref ((u 59)), .ref ((u 60)), .ref ((u 61)), .ref ((u 62))])), (((u 57)), .inl (X.2.2 0, 30, .inl (fun _ => 0))), (((u 58)), .inl (X.2.2 0, 30, .inl (fun _ => 0))), (((u 59)), .inl (X.2.2 1, 30, .inl (fun _ => 0))), (((u 60)), .inl (X.2.2 0, 30, .inl (fun _ => 0))), (((u 61)), .inl (X.2.2 0, 30, .inl (fun _ => 0))), (((u 62)), .inl (X.2.2 0, 6, .inl (iniIn))), ((u 63), .inr (0, [.ref ((u 64)), .int (0 : Int32), .int (0 : Int32)])), (((u 64)), .inl (X.2.2 5, 12, .inr (.inr (.inr (.inr (va_up (va_up (va_up (va_up (va_up (va_up (va_up (va_up (va_up (va_up (va_up (va_up (fun _ => none) 0 (some ((u 65)))) 1 (some ((u 66)))) 2 (some ((u 67)))) 3 (some ((u 68)))) 4 (some ((u 69)))) 5 (some ((u 70)))) 6 (some ((u 71)))) 7 (some ((u 72)))) 8 (some ((u 73)))) 9 (some ((u 74)))) 10 (some ((u 75)))) 11 (some ((u 76))))))))), (((u 65)), .inr (1, [.int (0 : Int32), .int (0 : Int32), .int (0 : Int32), .int (0 : Int32), .int (0 : Int32), .int (0 : Int32), .int (0 : Int32)])), (((u 66)), .inr (1, [.int (0 : Int32), .int (0 : Int32), .int (0 : Int32), .int (0 : Int32), .int (0 : Int32), .int (0 : Int32), .int (0 : Int32)])), (((u 67)), .inr (1, [.int (0 : Int32), .int (0 : Int32), .int (0 : Int32), .int (0 : Int32), .int (0 : Int32), .int (0 : Int32), .int (0 : Int32)])), (((u 68)), .inr (1, [.int (0 : Int32), .int (0 : Int32), .int (0 : Int32), .int (0 : Int32), .int (0 : Int32), .int (0 : Int32), .int (0 : Int32)])), (((u 69)), .inr (1, [.int (0 : Int32), .int (0 : Int32), .int (0 : Int32), .int (0 : Int32), .int (0 : Int32), .int (0 : Int32), .int (0 : Int32)])), (((u 70)), .inr (1, [.int (0 : Int32), .int (0 : Int32), .int (0 : Int32), .int (0 : Int32), .int (0 : Int32), .int (0 : Int32), .int (0 : Int32)])), (((u 71)), .inr (1, [.int (0 : Int32), .int (0 : Int32), .int (0 : Int32), .int (0 : Int32), .int (0 : Int32), .int (0 : Int32), .int (0 : Int32)])), (((u 72)), .inr (1, [.int (0 : Int32), .int (0 : Int32), .int (0 : Int32), .int (0 : Int32), .int (0 : Int32), .int (0 : Int32), .int (0 : Int32)])), (((u 73)), .inr (1, [.int (0 : Int32), .int (0 : Int32), .int (0 : Int32), .int (0 : Int32), .int (0 : Int32), .int (0 : Int32), .int (0 : Int32)])), (((u 74)), .inr (1, [.int (0 : Int32), .int (0 : Int32), .int (0 : Int32), .int (0 : Int32), .int (0 : Int32), .int (0 : Int32), .int (0 : Int32)])), (((u 75)), .inr (1, [.int (0 : Int32), .int (0 : Int32), .int (0 : Int32), .int (0 : Int32), .int (0 : Int32), .int (0 : Int32), .int (0 : Int32)])), (((u 76)), .inr (1, [.int (0 : Int32), .int (0 : Int32), .int (0 : Int32), .int (0 : Int32), .int (0 : Int32), .int (0 : Int32), .int (0 : Int32)])), ((u 77), .inl (X.2.2 0, 6, .inl (fun _ => 0))), ((u 78), .inl (X.2.2 0, 4, .inl (upd (upd (upd (upd (fun _ => 0) 0 (500)) 1 (500)) 2 (500)) 3 (500)))), ((u 79), .inl (X.2.2 0, 4, .inl (fun _ => 0))), ((u 80), .inl (X.2.2 0, 7, .inl (fun _ => 0)))]
def piX (i : Nat) : Nat := if i < 4 then i else if i < 22 then i + 3 else if i < 25 then i - 18 else i
def adX (h0 : Nat) (u : Nat → Nat) (k : Nat) : Nat := if k = 0 then h0 else u (k - 1)
def hXc (h0 : Nat) (u : Nat → Nat) (i : Nat) : Nat := adX h0 u (piX i)
set_option maxRecDepth 100000 in
theorem W9_fst {X : wX} {h0 : Nat} {u : Nat → Nat} : (W9 X h0 u).map Prod.fst = (List.range 82).map (adX h0 u) := rfl
theorem W9_get {X : wX} {h0 : Nat} {u : Nat → Nat} {k : Nat} (h : k < 82) : ∃ e, (W9 X h0 u)[k]? = some (adX h0 u k, e) := by
  have h1 : ((W9 X h0 u).map Prod.fst)[k]? = some (adX h0 u k) := by
    rw [W9_fst, List.getElem?_map, List.getElem?_range h]
    rfl
  rw [List.getElem?_map] at h1
  cases hw : (W9 X h0 u)[k]? with
  | none => rw [hw] at h1; cases h1
  | some q =>
    rw [hw] at h1
    exact ⟨q.2, by rw [← Option.some.inj h1]⟩
theorem piX_lt {i : Nat} (h : i < 82) : piX i < 82 := by
  unfold piX
  split
  · omega
  · split
    · omega
    · split
      · omega
      · omega
theorem piX_inj {i j : Nat} (hi : i < 82) (hj : j < 82) (h : piX i = piX j) : i = j := by
  unfold piX at h
  split at h <;> split at h <;> (try split at h) <;> (try split at h) <;> (try split at h) <;> (try split at h) <;> omega
theorem W9_D {X : wX} {h0 : Nat} {u : Nat → Nat} {A : Nat → Prop} (h : va_D A (W9 X h0 u)) : va_D A (wsl (X.1, hXc h0 u, X.2.2) kcL sIni) := by
  have hl : kcL.length = 82 := rfl
  refine ⟨fun i j p q hi hj hpq => ?_, fun k q hk => ?_⟩
  · obtain ⟨l1, e1⟩ := wsl_mem hi
    obtain ⟨l2, e2⟩ := wsl_mem hj
    rw [hl] at l1 l2
    obtain ⟨x, hx⟩ := W9_get (X := X) (h0 := h0) (u := u) (piX_lt l1)
    obtain ⟨y, hy⟩ := W9_get (X := X) (h0 := h0) (u := u) (piX_lt l2)
    exact piX_inj l1 l2 (h.1 _ _ _ _ hx hy (by
      rw [e1, e2] at hpq
      exact hpq))
  · obtain ⟨l1, e1⟩ := wsl_mem hk
    rw [hl] at l1
    obtain ⟨x, hx⟩ := W9_get (X := X) (h0 := h0) (u := u) (piX_lt l1)
    rw [e1]
    exact h.2 _ _ hx
theorem P_cons {D : va_G} {cl : List vw_C} {q : Nat × va_E} {w : va_W} {H : Heap} (h1 : va_at D cl q H) (h2 : va_P D cl w H) : va_P D cl (q :: w) H := by
  intro k r hr
  cases k with
  | zero =>
    rw [List.getElem?_cons_zero] at hr
    rw [← Option.some.inj hr]
    exact h1
  | succ k =>
    rw [List.getElem?_cons_succ] at hr
    exact h2 k r hr
theorem P_nil {D : va_G} {cl : List vw_C} {H : Heap} : va_P D cl [] H := fun k r hr => by cases hr
theorem ref_ext {D : va_G} {cl : List vw_C} {H : Heap} {a n : Nat} {cA : ClassId} {f g : Nat → Option Nat} (h : va_at D cl (a, .inl (cA, n, .inr (.inr (.inr (.inr f))))) H) (he : ∀ j, j < n → f j = g j) : va_at D cl (a, .inl (cA, n, .inr (.inr (.inr (.inr g))))) H := by
  have h1 : H[a]? = some (vp_cell cA (n, .inr (.inr (.inr (.inr f))))) := h
  show H[a]? = some (vp_cell cA (n, .inr (.inr (.inr (.inr g)))))
  rw [h1, vp_cell_q, vp_cell_q]
  congr 1
  unfold arrV
  congr 2
  funext j
  show va_rf (f j.val) = va_rf (g j.val)
  rw [he j.val j.isLt]
set_option maxHeartbeats 8000000 in
set_option maxRecDepth 100000 in
theorem W9_P {X : wX} {h0 : Nat} {u : Nat → Nat} {H : Heap} (h : va_P X.1 vwCl (W9 X h0 u) H) : va_P X.1 vwCl (wsl (X.1, hXc h0 u, X.2.2) kcL sIni) H := by
  have c41 : (sIni 41 1).toNatClampNeg = 43 := by decide
  have r41 : va_at X.1 vwCl (hXc h0 u 41, CE (X.1, hXc h0 u, X.2.2) kcL 41 (sIni 41)) H := by
    have e : CE (X.1, hXc h0 u, X.2.2) kcL 41 (sIni 41) = .inr (7, [.ref (hXc h0 u 42), .ref (hXc h0 u (sIni 41 1).toNatClampNeg)]) := rfl
    rw [e, c41]
    exact h 41 _ rfl
  exact P_cons (h 0 _ rfl) (P_cons (h 1 _ rfl) (P_cons (ref_ext (h 2 _ rfl) (fun j hj => by rcases (show j = 0 ∨ j = 1 ∨ j = 2 ∨ j = 3 ∨ j = 4 ∨ j = 5 by omega) with rfl | rfl | rfl | rfl | rfl | rfl <;> rfl)) (P_cons (ref_ext (h 3 _ rfl) (fun j hj => by rcases (show j = 0 ∨ j = 1 ∨ j = 2 ∨ j = 3 ∨ j = 4 ∨ j = 5 ∨ j = 6 ∨ j = 7 ∨ j = 8 ∨ j = 9 ∨ j = 10 ∨ j = 11 ∨ j = 12 ∨ j = 13 ∨ j = 14 ∨ j = 15 by omega) with rfl | rfl | rfl | rfl | rfl | rfl | rfl | rfl | rfl | rfl | rfl | rfl | rfl | rfl | rfl | rfl <;> rfl)) (P_cons (h 7 _ rfl) (P_cons (h 8 _ rfl) (P_cons (h 9 _ rfl) (P_cons (h 10 _ rfl) (P_cons (h 11 _ rfl) (P_cons (h 12 _ rfl) (P_cons (h 13 _ rfl) (P_cons (h 14 _ rfl) (P_cons (h 15 _ rfl) (P_cons (h 16 _ rfl) (P_cons (h 17 _ rfl) (P_cons (h 18 _ rfl) (P_cons (h 19 _ rfl) (P_cons (h 20 _ rfl) (P_cons (h 21 _ rfl) (P_cons (h 22 _ rfl) (P_cons (h 23 _ rfl) (P_cons (h 24 _ rfl) (P_cons (h 4 _ rfl) (P_cons (h 5 _ rfl) (P_cons (h 6 _ rfl) (P_cons (h 25 _ rfl) (P_cons (h 26 _ rfl) (P_cons (h 27 _ rfl) (P_cons (h 28 _ rfl) (P_cons (h 29 _ rfl) (P_cons (h 30 _ rfl) (P_cons (h 31 _ rfl) (P_cons (h 32 _ rfl) (P_cons (h 33 _ rfl) (P_cons (h 34 _ rfl) (P_cons (h 35 _ rfl) (P_cons (h 36 _ rfl) (P_cons (h 37 _ rfl) (P_cons (h 38 _ rfl) (P_cons (h 39 _ rfl) (P_cons (h 40 _ rfl) (P_cons r41 (P_cons (ref_ext (h 42 _ rfl) (fun j hj => by rcases (show j = 0 ∨ j = 1 ∨ j = 2 by omega) with rfl | rfl | rfl <;> rfl)) (P_cons (h 43 _ rfl) (P_cons (h 44 _ rfl) (P_cons (h 45 _ rfl) (P_cons (h 46 _ rfl) (P_cons (h 47 _ rfl) (P_cons (h 48 _ rfl) (P_cons (h 49 _ rfl) (P_cons (h 50 _ rfl) (P_cons (h 51 _ rfl) (P_cons (h 52 _ rfl) (P_cons (h 53 _ rfl) (P_cons (h 54 _ rfl) (P_cons (h 55 _ rfl) (P_cons (h 56 _ rfl) (P_cons (h 57 _ rfl) (P_cons (h 58 _ rfl) (P_cons (h 59 _ rfl) (P_cons (h 60 _ rfl) (P_cons (h 61 _ rfl) (P_cons (h 62 _ rfl) (P_cons (h 63 _ rfl) (P_cons (h 64 _ rfl) (P_cons (ref_ext (h 65 _ rfl) (fun j hj => by rcases (show j = 0 ∨ j = 1 ∨ j = 2 ∨ j = 3 ∨ j = 4 ∨ j = 5 ∨ j = 6 ∨ j = 7 ∨ j = 8 ∨ j = 9 ∨ j = 10 ∨ j = 11 by omega) with rfl | rfl | rfl | rfl | rfl | rfl | rfl | rfl | rfl | rfl | rfl | rfl <;> rfl)) (P_cons (h 66 _ rfl) (P_cons (h 67 _ rfl) (P_cons (h 68 _ rfl) (P_cons (h 69 _ rfl) (P_cons (h 70 _ rfl) (P_cons (h 71 _ rfl) (P_cons (h 72 _ rfl) (P_cons (h 73 _ rfl) (P_cons (h 74 _ rfl) (P_cons (h 75 _ rfl) (P_cons (h 76 _ rfl) (P_cons (h 77 _ rfl) (P_cons (h 78 _ rfl) (P_cons (h 79 _ rfl) (P_cons (h 80 _ rfl) (P_cons (h 81 _ rfl) P_nil)))))))))))))))))))))))))))))))))))))))))))))))))))))))))))))))))))))))))))))))))
