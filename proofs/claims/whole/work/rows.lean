section
-- ===== PART A: goes FIRST, ahead of the names: the tables' words, and 'selects' of the private methods out of them =====
/-- a private method of a class that the tables say can be made, by its rows of tables_1 -/
def lw_okq (q : MethodName × Nat) : Prop := (q.1.cls ≠ "java/lang/invoke/MethodHandle" ∧ q.1.cls ≠ "java/lang/invoke/VarHandle") ∧ Cond.instantiable q.1.cls q.2 ∈ tables_1 ∧ Cond.privateMethod q.1 ∈ tables_1 ∧ Cond.instanceMethod q.1 ∈ tables_1
theorem lw_p0 : lw_okq (⟨"GobRow$Knots", "lastAhead", "(I)I"⟩, 3) := ⟨⟨by decide +kernel, by decide +kernel⟩, List.mem_of_getElem? (i := 94) (by decide +kernel), List.mem_of_getElem? (i := 425) (by decide +kernel), List.mem_of_getElem? (i := 426) (by decide +kernel)⟩
theorem lw_p1 : lw_okq (⟨"GobRow$Knots", "nextInRing", "(I)I"⟩, 3) := ⟨⟨by decide +kernel, by decide +kernel⟩, List.mem_of_getElem? (i := 94) (by decide +kernel), List.mem_of_getElem? (i := 432) (by decide +kernel), List.mem_of_getElem? (i := 433) (by decide +kernel)⟩
theorem lw_p2 : lw_okq (⟨"GobRow", "takeOffEldest", "()V"⟩, 15) := ⟨⟨by decide +kernel, by decide +kernel⟩, List.mem_of_getElem? (i := 14) (by decide +kernel), List.mem_of_getElem? (i := 560) (by decide +kernel), List.mem_of_getElem? (i := 561) (by decide +kernel)⟩
theorem lw_p3 : lw_okq (⟨"GobRow", "verdict", "(LGobRow$Bottle;)I"⟩, 15) := ⟨⟨by decide +kernel, by decide +kernel⟩, List.mem_of_getElem? (i := 14) (by decide +kernel), List.mem_of_getElem? (i := 568) (by decide +kernel), List.mem_of_getElem? (i := 569) (by decide +kernel)⟩
theorem lw_p4 : lw_okq (⟨"GobRow", "makeBottle", "()V"⟩, 15) := ⟨⟨by decide +kernel, by decide +kernel⟩, List.mem_of_getElem? (i := 14) (by decide +kernel), List.mem_of_getElem? (i := 580) (by decide +kernel), List.mem_of_getElem? (i := 581) (by decide +kernel)⟩
theorem lw_p5 : lw_okq (⟨"GobRow", "faultOfCut", "(II)I"⟩, 15) := ⟨⟨by decide +kernel, by decide +kernel⟩, List.mem_of_getElem? (i := 14) (by decide +kernel), List.mem_of_getElem? (i := 600) (by decide +kernel), List.mem_of_getElem? (i := 601) (by decide +kernel)⟩
theorem lw_p6 : lw_okq (⟨"GobRowModel", "maySet", "(IIII)Z"⟩, 45) := ⟨⟨by decide +kernel, by decide +kernel⟩, List.mem_of_getElem? (i := 617) (by decide +kernel), List.mem_of_getElem? (i := 763) (by decide +kernel), List.mem_of_getElem? (i := 764) (by decide +kernel)⟩
theorem lw_p7 : lw_okq (⟨"GobRowModel", "brokenBy", "(I)I"⟩, 45) := ⟨⟨by decide +kernel, by decide +kernel⟩, List.mem_of_getElem? (i := 617) (by decide +kernel), List.mem_of_getElem? (i := 779) (by decide +kernel), List.mem_of_getElem? (i := 780) (by decide +kernel)⟩
theorem lw_p8 : lw_okq (⟨"GobRowModel", "keeps", "(III)Z"⟩, 45) := ⟨⟨by decide +kernel, by decide +kernel⟩, List.mem_of_getElem? (i := 617) (by decide +kernel), List.mem_of_getElem? (i := 783) (by decide +kernel), List.mem_of_getElem? (i := 784) (by decide +kernel)⟩
theorem lw_p9 : lw_okq (⟨"GobRowModel", "lengthOf", "(II)I"⟩, 45) := ⟨⟨by decide +kernel, by decide +kernel⟩, List.mem_of_getElem? (i := 617) (by decide +kernel), List.mem_of_getElem? (i := 787) (by decide +kernel), List.mem_of_getElem? (i := 788) (by decide +kernel)⟩
theorem lw_p10 : lw_okq (⟨"GobRowModel", "isDone", "(III)Z"⟩, 45) := ⟨⟨by decide +kernel, by decide +kernel⟩, List.mem_of_getElem? (i := 617) (by decide +kernel), List.mem_of_getElem? (i := 791) (by decide +kernel), List.mem_of_getElem? (i := 792) (by decide +kernel)⟩
theorem lw_p11 : lw_okq (⟨"GobRowModel", "brokenAt", "(I)I"⟩, 45) := ⟨⟨by decide +kernel, by decide +kernel⟩, List.mem_of_getElem? (i := 617) (by decide +kernel), List.mem_of_getElem? (i := 820) (by decide +kernel), List.mem_of_getElem? (i := 821) (by decide +kernel)⟩
theorem lw_p12 : lw_okq (⟨"GobRowModel", "areClear", "()Z"⟩, 45) := ⟨⟨by decide +kernel, by decide +kernel⟩, List.mem_of_getElem? (i := 617) (by decide +kernel), List.mem_of_getElem? (i := 839) (by decide +kernel), List.mem_of_getElem? (i := 840) (by decide +kernel)⟩
theorem lw_p13 : lw_okq (⟨"GobRowModel", "find", "(II)V"⟩, 45) := ⟨⟨by decide +kernel, by decide +kernel⟩, List.mem_of_getElem? (i := 617) (by decide +kernel), List.mem_of_getElem? (i := 843) (by decide +kernel), List.mem_of_getElem? (i := 844) (by decide +kernel)⟩
theorem lw_p14 : lw_okq (⟨"GobRowModel", "placeInOrder", "(I)I"⟩, 45) := ⟨⟨by decide +kernel, by decide +kernel⟩, List.mem_of_getElem? (i := 617) (by decide +kernel), List.mem_of_getElem? (i := 871) (by decide +kernel), List.mem_of_getElem? (i := 872) (by decide +kernel)⟩
theorem lw_p15 : lw_okq (⟨"GobRowModel", "sectionOf", "(I)I"⟩, 45) := ⟨⟨by decide +kernel, by decide +kernel⟩, List.mem_of_getElem? (i := 617) (by decide +kernel), List.mem_of_getElem? (i := 901) (by decide +kernel), List.mem_of_getElem? (i := 902) (by decide +kernel)⟩
def lw_privs_1 : List (MethodName × Nat) := [(⟨"GobRow$Knots", "lastAhead", "(I)I"⟩, 3), (⟨"GobRow$Knots", "nextInRing", "(I)I"⟩, 3), (⟨"GobRow", "takeOffEldest", "()V"⟩, 15), (⟨"GobRow", "verdict", "(LGobRow$Bottle;)I"⟩, 15), (⟨"GobRow", "makeBottle", "()V"⟩, 15), (⟨"GobRow", "faultOfCut", "(II)I"⟩, 15), (⟨"GobRowModel", "maySet", "(IIII)Z"⟩, 45), (⟨"GobRowModel", "brokenBy", "(I)I"⟩, 45), (⟨"GobRowModel", "keeps", "(III)Z"⟩, 45), (⟨"GobRowModel", "lengthOf", "(II)I"⟩, 45), (⟨"GobRowModel", "isDone", "(III)Z"⟩, 45), (⟨"GobRowModel", "brokenAt", "(I)I"⟩, 45), (⟨"GobRowModel", "areClear", "()Z"⟩, 45), (⟨"GobRowModel", "find", "(II)V"⟩, 45), (⟨"GobRowModel", "placeInOrder", "(I)I"⟩, 45), (⟨"GobRowModel", "sectionOf", "(I)I"⟩, 45)]
theorem lw_r1 : ∀ q ∈ lw_privs_1, lw_okq q := List.forall_mem_cons.mpr ⟨lw_p0, List.forall_mem_cons.mpr ⟨lw_p1, List.forall_mem_cons.mpr ⟨lw_p2, List.forall_mem_cons.mpr ⟨lw_p3, List.forall_mem_cons.mpr ⟨lw_p4, List.forall_mem_cons.mpr ⟨lw_p5, List.forall_mem_cons.mpr ⟨lw_p6, List.forall_mem_cons.mpr ⟨lw_p7, List.forall_mem_cons.mpr ⟨lw_p8, List.forall_mem_cons.mpr ⟨lw_p9, List.forall_mem_cons.mpr ⟨lw_p10, List.forall_mem_cons.mpr ⟨lw_p11, List.forall_mem_cons.mpr ⟨lw_p12, List.forall_mem_cons.mpr ⟨lw_p13, List.forall_mem_cons.mpr ⟨lw_p14, List.forall_mem_cons.mpr ⟨lw_p15, fun _ h => absurd h List.not_mem_nil⟩⟩⟩⟩⟩⟩⟩⟩⟩⟩⟩⟩⟩⟩⟩⟩
theorem lw_p16 : lw_okq (⟨"GobRowModel", "comeOff", "()V"⟩, 45) := ⟨⟨by decide +kernel, by decide +kernel⟩, List.mem_of_getElem? (i := 617) (by decide +kernel), List.mem_of_getElem? (i := 929) (by decide +kernel), List.mem_of_getElem? (i := 930) (by decide +kernel)⟩
theorem lw_p17 : lw_okq (⟨"GobRowModel", "judgeOf", "(I)I"⟩, 45) := ⟨⟨by decide +kernel, by decide +kernel⟩, List.mem_of_getElem? (i := 617) (by decide +kernel), List.mem_of_getElem? (i := 933) (by decide +kernel), List.mem_of_getElem? (i := 934) (by decide +kernel)⟩
theorem lw_p18 : lw_okq (⟨"GobRowModel", "cutOne", "()V"⟩, 45) := ⟨⟨by decide +kernel, by decide +kernel⟩, List.mem_of_getElem? (i := 617) (by decide +kernel), List.mem_of_getElem? (i := 937) (by decide +kernel), List.mem_of_getElem? (i := 938) (by decide +kernel)⟩
def lw_privs_2 : List (MethodName × Nat) := [(⟨"GobRowModel", "comeOff", "()V"⟩, 45), (⟨"GobRowModel", "judgeOf", "(I)I"⟩, 45), (⟨"GobRowModel", "cutOne", "()V"⟩, 45)]
theorem lw_r2 : ∀ q ∈ lw_privs_2, lw_okq q := List.forall_mem_cons.mpr ⟨lw_p16, List.forall_mem_cons.mpr ⟨lw_p17, List.forall_mem_cons.mpr ⟨lw_p18, fun _ h => absurd h List.not_mem_nil⟩⟩⟩
def lw_privs : List (MethodName × Nat) := lw_privs_1 ++ (lw_privs_2)
def lw_tbl : List Cond := k2_sels lw_privs ++ tables_1
theorem lw_privs_ok : ∀ q ∈ lw_privs, lw_okq q := by
  show ∀ q ∈ lw_privs_1 ++ (lw_privs_2), lw_okq q
  exact List.forall_mem_append.mpr ⟨lw_r1, lw_r2⟩
end
section
/-! ===== BEGIN words of one list among another's, by their places ===== -/
theorem goodIn_r {big : List Cond} (ws : List Cond) (ps : List Nat) (hp : ws = ps.filterMap (fun i => big[i]?)) (h : ws.all goodWord = true) : GoodIn big ws := by
  intro w hw
  have h1 := List.all_eq_true.mp h w hw
  rw [hp] at hw
  obtain ⟨i, -, hi⟩ := List.mem_filterMap.mp hw
  have hm : w ∈ big := by first | exact List.mem_of_getElem? hi | exact List.getElem?_mem hi
  exact ⟨hm, good_of_word h1⟩
theorem goodIn_app {big a b : List Cond} (ha : GoodIn big a) (hb : GoodIn big b) : GoodIn big (a ++ b) := fun w h => (List.mem_append.mp h).elim (ha w) (hb w)
theorem goodIn_ca {big a b : List Cond} {c : Cond} (ha : GoodIn big (c :: a)) (hb : GoodIn big b) : GoodIn big (c :: (a ++ b)) := fun w h => (List.mem_cons.mp h).elim (fun e => ha w (List.mem_cons.mpr (Or.inl e))) (fun h => (List.mem_append.mp h).elim (fun h => ha w (List.mem_cons.mpr (Or.inr h))) (hb w))
theorem goodIn_sub {big ws : List Cond} (hm : ∀ w ∈ ws, w ∈ big) (h : ws.all goodWord = true) : GoodIn big ws := fun w hw => ⟨hm w hw, good_of_word (List.all_eq_true.mp h w hw)⟩
/-! ===== END ===== -/

/-! ===== BEGIN printed: names, fields, word lists, decode rows ===== -/
def RX0 : String := "GobRow$Belt"
def TX0 : u_T := fun k => match k with
  | 0 => ("GobRow$Belt", "ring", "[LGobRow$Bottle;", true)
  | 1 => ("GobRow$Belt", "eldest", "I", false)
  | _ => ("GobRow$Belt", "count", "I", false)
def tyX0 : Nat → FieldType := fun k => match k with
  | 0 => .array (.object "GobRow$Bottle")
  | 1 => .int
  | _ => .int
abbrev wsX00 : List Cond := u_ws RX0 TX0 3
theorem nmX0 : ∀ a, a < 3 → ∀ b, b < 3 → a ≠ b → (TX0 a).2.1 ≠ (TX0 b).2.1 := by decide +kernel
theorem tyX0_ok : ∀ k, k < 3 → parseFieldDescriptor (TX0 k).2.2.1 = some (tyX0 k) := by decide +kernel
abbrev cX0_init : ByteArray := prog_2_method_1_code
def yX0_init : MethodName := ⟨RX0, "<init>", "()V"⟩
abbrev cX0_fromEldest : ByteArray := prog_2_method_2_code
def yX0_fromEldest : MethodName := ⟨RX0, "fromEldest", "(I)LGobRow$Bottle;"⟩
abbrev cX0_putLast : ByteArray := prog_2_method_3_code
def yX0_putLast : MethodName := ⟨RX0, "putLast", "()LGobRow$Bottle;"⟩
abbrev cX0_takeEldest : ByteArray := prog_2_method_4_code
def yX0_takeEldest : MethodName := ⟨RX0, "takeEldest", "()LGobRow$Bottle;"⟩
def RX1 : String := "GobRow$Bottle"
def TX1 : u_T := fun k => match k with
  | 0 => ("GobRow$Bottle", "number", "I", false)
  | 1 => ("GobRow$Bottle", "section", "I", false)
  | 2 => ("GobRow$Bottle", "mould", "I", false)
  | 3 => ("GobRow$Bottle", "job", "I", false)
  | 4 => ("GobRow$Bottle", "aim", "I", false)
  | 5 => ("GobRow$Bottle", "weight", "I", false)
  | _ => ("GobRow$Bottle", "fault", "I", false)
def tyX1 : Nat → FieldType := fun k => match k with
  | 0 => .int
  | 1 => .int
  | 2 => .int
  | 3 => .int
  | 4 => .int
  | 5 => .int
  | _ => .int
abbrev wsX10 : List Cond := u_ws RX1 TX1 7
theorem nmX1 : ∀ a, a < 7 → ∀ b, b < 7 → a ≠ b → (TX1 a).2.1 ≠ (TX1 b).2.1 := by decide +kernel
theorem tyX1_ok : ∀ k, k < 7 → parseFieldDescriptor (TX1 k).2.2.1 = some (tyX1 k) := by decide +kernel
abbrev cX1_init : ByteArray := prog_3_method_1_code
def yX1_init : MethodName := ⟨RX1, "<init>", "()V"⟩
def RX2 : String := "GobRow$Drum"
def TX2 : u_T := fun k => match k with
  | 0 => ("GobRow$Drum", "on", "[I", true)
  | _ => ("GobRow$Drum", "off", "[I", true)
def tyX2 : Nat → FieldType := fun k => match k with
  | 0 => .array .int
  | _ => .array .int
abbrev wsX20 : List Cond := u_ws RX2 TX2 2
theorem nmX2 : ∀ a, a < 2 → ∀ b, b < 2 → a ≠ b → (TX2 a).2.1 ≠ (TX2 b).2.1 := by decide +kernel
theorem tyX2_ok : ∀ k, k < 2 → parseFieldDescriptor (TX2 k).2.2.1 = some (tyX2 k) := by decide +kernel
abbrev cX2_init : ByteArray := prog_4_method_1_code
def yX2_init : MethodName := ⟨RX2, "<init>", "()V"⟩
abbrev cX2_change : ByteArray := prog_4_method_2_code
def yX2_change : MethodName := ⟨RX2, "change", "(III)V"⟩
abbrev cX2_shift : ByteArray := prog_4_method_3_code
def yX2_shift : MethodName := ⟨RX2, "shift", "(I)V"⟩
abbrev cX2_become : ByteArray := prog_4_method_4_code
def yX2_become : MethodName := ⟨RX2, "become", "(LGobRow$Drum;)V"⟩
abbrev cX2_length : ByteArray := prog_4_method_5_code
def yX2_length : MethodName := ⟨RX2, "length", "(I)I"⟩
abbrev cX2_isDone : ByteArray := prog_4_method_6_code
def yX2_isDone : MethodName := ⟨RX2, "isDone", "(II)Z"⟩
abbrev cX2_isInside : ByteArray := prog_4_method_7_code
def yX2_isInside : MethodName := ⟨RX2, "isInside", "(II)Z"⟩
def RX3 : String := "GobRow$Drums"
def TX3 : u_T := fun k => match k with
  | 0 => ("GobRow$Drums", "rows", "[LGobRow$Drum;", true)
  | 1 => ("GobRow$Drums", "laws", "[LGobRow$Rule;", true)
  | 2 => ("GobRow$Drums", "trial", "LGobRow$Drum;", true)
  | 3 => ("GobRow$Drums", "lawCount", "I", false)
  | _ => ("GobRow$Drums", "turnsAMinute", "I", false)
def tyX3 : Nat → FieldType := fun k => match k with
  | 0 => .array (.object "GobRow$Drum")
  | 1 => .array (.object "GobRow$Rule")
  | 2 => .object "GobRow$Drum"
  | 3 => .int
  | _ => .int
abbrev wsX30 : List Cond := u_ws RX3 TX3 5
theorem nmX3 : ∀ a, a < 5 → ∀ b, b < 5 → a ≠ b → (TX3 a).2.1 ≠ (TX3 b).2.1 := by decide +kernel
theorem tyX3_ok : ∀ k, k < 5 → parseFieldDescriptor (TX3 k).2.2.1 = some (tyX3 k) := by decide +kernel
abbrev cX3_init : ByteArray := prog_5_method_1_code
def yX3_init : MethodName := ⟨RX3, "<init>", "()V"⟩
abbrev cX3_brokenIf : ByteArray := prog_5_method_2_code
def yX3_brokenIf : MethodName := ⟨RX3, "brokenIf", "(IIII)I"⟩
abbrev cX3_brokenAt : ByteArray := prog_5_method_3_code
def yX3_brokenAt : MethodName := ⟨RX3, "brokenAt", "(I)I"⟩
abbrev cX3_anyBreaks : ByteArray := prog_5_method_4_code
def yX3_anyBreaks : MethodName := ⟨RX3, "anyBreaks", "(II)Z"⟩
abbrev cX3_greatestPace : ByteArray := prog_5_method_5_code
def yX3_greatestPace : MethodName := ⟨RX3, "greatestPace", "()I"⟩
def RX4 : String := "GobRow$Knots"
def TX4 : u_T := fun k => match k with
  | 0 => ("GobRow$Knots", "degrees", "[I", true)
  | 1 => ("GobRow$Knots", "places", "[I", true)
  | _ => ("GobRow$Knots", "count", "I", false)
def tyX4 : Nat → FieldType := fun k => match k with
  | 0 => .array .int
  | 1 => .array .int
  | _ => .int
abbrev wsX40 : List Cond := u_ws RX4 TX4 3
theorem nmX4 : ∀ a, a < 3 → ∀ b, b < 3 → a ≠ b → (TX4 a).2.1 ≠ (TX4 b).2.1 := by decide +kernel
theorem tyX4_ok : ∀ k, k < 3 → parseFieldDescriptor (TX4 k).2.2.1 = some (tyX4 k) := by decide +kernel
abbrev cX4_init : ByteArray := prog_6_method_1_code
def yX4_init : MethodName := ⟨RX4, "<init>", "()V"⟩
abbrev cX4_add : ByteArray := prog_6_method_2_code
def yX4_add : MethodName := ⟨RX4, "add", "(II)V"⟩
abbrev cX4_latest : ByteArray := prog_6_method_3_code
def yX4_latest : MethodName := ⟨RX4, "latest", "()I"⟩
abbrev cX4_above : ByteArray := prog_6_method_4_code
def yX4_above : MethodName := ⟨RX4, "above", "(I)I"⟩
abbrev cX4_below : ByteArray := prog_6_method_5_code
def yX4_below : MethodName := ⟨RX4, "below", "(I)I"⟩
abbrev cX4_lastAhead : ByteArray := prog_6_method_6_code
def yX4_lastAhead : MethodName := ⟨RX4, "lastAhead", "(I)I"⟩
abbrev cX4_nextInRing : ByteArray := prog_6_method_7_code
def yX4_nextInRing : MethodName := ⟨RX4, "nextInRing", "(I)I"⟩
def RX5 : String := "GobRow$Moulds"
def TX5 : u_T := fun k => match k with
  | 0 => ("GobRow$Moulds", "uses", "[I", true)
  | 1 => ("GobRow$Moulds", "dust", "[I", true)
  | 2 => ("GobRow$Moulds", "pulled", "[Z", true)
  | 3 => ("GobRow$Moulds", "good", "[I", true)
  | 4 => ("GobRow$Moulds", "bad", "[I", true)
  | _ => ("GobRow$Moulds", "inSection", "[I", true)
def tyX5 : Nat → FieldType := fun k => match k with
  | 0 => .array .int
  | 1 => .array .int
  | 2 => .array .boolean
  | 3 => .array .int
  | 4 => .array .int
  | _ => .array .int
abbrev wsX50 : List Cond := u_ws RX5 TX5 6
theorem nmX5 : ∀ a, a < 6 → ∀ b, b < 6 → a ≠ b → (TX5 a).2.1 ≠ (TX5 b).2.1 := by decide +kernel
theorem tyX5_ok : ∀ k, k < 6 → parseFieldDescriptor (TX5 k).2.2.1 = some (tyX5 k) := by decide +kernel
abbrev cX5_init : ByteArray := prog_7_method_1_code
def yX5_init : MethodName := ⟨RX5, "<init>", "()V"⟩
abbrev cX5_sectionOf : ByteArray := prog_7_method_2_code
def yX5_sectionOf : MethodName := ⟨RX5, "sectionOf", "(I)I"⟩
abbrev cX5_makeNew : ByteArray := prog_7_method_3_code
def yX5_makeNew : MethodName := ⟨RX5, "makeNew", "(I)V"⟩
abbrev cX5_enter : ByteArray := prog_7_method_4_code
def yX5_enter : MethodName := ⟨RX5, "enter", "(IZ)V"⟩
def RX6 : String := "GobRow$Order"
def TX6 : u_T := fun k => match k with
  | 0 => ("GobRow$Order", "sections", "[I", true)
  | 1 => ("GobRow$Order", "turnAt", "I", false)
  | _ => ("GobRow$Order", "count", "I", false)
def tyX6 : Nat → FieldType := fun k => match k with
  | 0 => .array .int
  | 1 => .int
  | _ => .int
abbrev wsX60 : List Cond := u_ws RX6 TX6 3
theorem nmX6 : ∀ a, a < 3 → ∀ b, b < 3 → a ≠ b → (TX6 a).2.1 ≠ (TX6 b).2.1 := by decide +kernel
theorem tyX6_ok : ∀ k, k < 3 → parseFieldDescriptor (TX6 k).2.2.1 = some (tyX6 k) := by decide +kernel
abbrev cX6_init : ByteArray := prog_8_method_1_code
def yX6_init : MethodName := ⟨RX6, "<init>", "()V"⟩
abbrev cX6_find : ByteArray := prog_8_method_2_code
def yX6_find : MethodName := ⟨RX6, "find", "(I)I"⟩
abbrev cX6_leave : ByteArray := prog_8_method_3_code
def yX6_leave : MethodName := ⟨RX6, "leave", "(I)V"⟩
abbrev cX6_join : ByteArray := prog_8_method_4_code
def yX6_join : MethodName := ⟨RX6, "join", "(I)V"⟩
abbrev cX6_next : ByteArray := prog_8_method_5_code
def yX6_next : MethodName := ⟨RX6, "next", "()I"⟩
abbrev cX6_pass : ByteArray := prog_8_method_6_code
def yX6_pass : MethodName := ⟨RX6, "pass", "()V"⟩
def RX7 : String := "GobRow$Rail"
def TX7 : u_T := fun k => match k with
  | 0 => ("GobRow$Rail", "arms", "[LGobRow$Knots;", true)
  | _ => ("GobRow$Rail", "told", "LGobRow$Knots;", false)
def tyX7 : Nat → FieldType := fun k => match k with
  | 0 => .array (.object "GobRow$Knots")
  | _ => .object "GobRow$Knots"
abbrev wsX70 : List Cond := u_ws RX7 TX7 2
theorem nmX7 : ∀ a, a < 2 → ∀ b, b < 2 → a ≠ b → (TX7 a).2.1 ≠ (TX7 b).2.1 := by decide +kernel
theorem tyX7_ok : ∀ k, k < 2 → parseFieldDescriptor (TX7 k).2.2.1 = some (tyX7 k) := by decide +kernel
abbrev cX7_init : ByteArray := prog_9_method_1_code
def yX7_init : MethodName := ⟨RX7, "<init>", "()V"⟩
abbrev cX7_swapWithTold : ByteArray := prog_9_method_2_code
def yX7_swapWithTold : MethodName := ⟨RX7, "swapWithTold", "(I)V"⟩
abbrev cX7_isClear : ByteArray := prog_9_method_3_code
def yX7_isClear : MethodName := ⟨RX7, "isClear", "()Z"⟩
abbrev cX7_nearestDegree : ByteArray := prog_9_method_4_code
def yX7_nearestDegree : MethodName := ⟨RX7, "nearestDegree", "(LGobRow$Knots;LGobRow$Knots;)I"⟩
abbrev cX7_isPairClear : ByteArray := prog_9_method_5_code
def yX7_isPairClear : MethodName := ⟨RX7, "isPairClear", "(LGobRow$Knots;LGobRow$Knots;)Z"⟩
abbrev cX7_isClearAt : ByteArray := prog_9_method_6_code
def yX7_isClearAt : MethodName := ⟨RX7, "isClearAt", "(LGobRow$Knots;LGobRow$Knots;I)Z"⟩
abbrev cX7_nearerDegree : ByteArray := prog_9_method_7_code
def yX7_nearerDegree : MethodName := ⟨RX7, "nearerDegree", "(LGobRow$Knots;LGobRow$Knots;II)I"⟩
abbrev cX7_distanceAbove : ByteArray := prog_9_method_8_code
def yX7_distanceAbove : MethodName := ⟨RX7, "distanceAbove", "(LGobRow$Knots;LGobRow$Knots;I)J"⟩
abbrev cX7_distanceBelow : ByteArray := prog_9_method_9_code
def yX7_distanceBelow : MethodName := ⟨RX7, "distanceBelow", "(LGobRow$Knots;LGobRow$Knots;I)J"⟩
def RX8 : String := "GobRow$Rule"
def TX8 : u_T := fun k => match k with
  | 0 => ("GobRow$Rule", "kind", "I", false)
  | 1 => ("GobRow$Rule", "a", "I", false)
  | 2 => ("GobRow$Rule", "b", "I", false)
  | _ => ("GobRow$Rule", "n", "I", false)
def tyX8 : Nat → FieldType := fun k => match k with
  | 0 => .int
  | 1 => .int
  | 2 => .int
  | _ => .int
abbrev wsX80 : List Cond := u_ws RX8 TX8 4
theorem nmX8 : ∀ a, a < 4 → ∀ b, b < 4 → a ≠ b → (TX8 a).2.1 ≠ (TX8 b).2.1 := by decide +kernel
theorem tyX8_ok : ∀ k, k < 4 → parseFieldDescriptor (TX8 k).2.2.1 = some (tyX8 k) := by decide +kernel
abbrev cX8_init : ByteArray := prog_10_method_1_code
def yX8_init : MethodName := ⟨RX8, "<init>", "()V"⟩
abbrev cX8_become : ByteArray := prog_10_method_2_code
def yX8_become : MethodName := ⟨RX8, "become", "(IIII)V"⟩
abbrev cX8_isBroken : ByteArray := prog_10_method_3_code
def yX8_isBroken : MethodName := ⟨RX8, "isBroken", "(LGobRow$Drum;I)Z"⟩
abbrev cX8_greatestPace : ByteArray := prog_10_method_4_code
def yX8_greatestPace : MethodName := ⟨RX8, "greatestPace", "(LGobRow$Drum;)I"⟩
def RX9 : String := "GobRow"
def TX9 : u_T := fun k => match k with
  | 0 => ("GobRow", "drums", "LGobRow$Drums;", true)
  | 1 => ("GobRow", "rail", "LGobRow$Rail;", true)
  | 2 => ("GobRow", "order", "LGobRow$Order;", true)
  | 3 => ("GobRow", "moulds", "LGobRow$Moulds;", true)
  | 4 => ("GobRow", "belt", "LGobRow$Belt;", true)
  | 5 => ("GobRow", "jobOfSection", "[I", true)
  | 6 => ("GobRow", "aimOfJob", "[I", true)
  | 7 => ("GobRow", "colourOfJob", "[I", true)
  | 8 => ("GobRow", "judged", "[I", true)
  | 9 => ("GobRow", "glassColour", "I", false)
  | 10 => ("GobRow", "mixed", "I", false)
  | 11 => ("GobRow", "tube", "I", false)
  | 12 => ("GobRow", "drift", "I", false)
  | 13 => ("GobRow", "lasts", "I", false)
  | _ => ("GobRow", "cuts", "I", false)
def tyX9 : Nat → FieldType := fun k => match k with
  | 0 => .object "GobRow$Drums"
  | 1 => .object "GobRow$Rail"
  | 2 => .object "GobRow$Order"
  | 3 => .object "GobRow$Moulds"
  | 4 => .object "GobRow$Belt"
  | 5 => .array .int
  | 6 => .array .int
  | 7 => .array .int
  | 8 => .array .int
  | 9 => .int
  | 10 => .int
  | 11 => .int
  | 12 => .int
  | 13 => .int
  | _ => .int
abbrev wsX90 : List Cond := u_ws RX9 TX9 15
theorem nmX9 : ∀ a, a < 15 → ∀ b, b < 15 → a ≠ b → (TX9 a).2.1 ≠ (TX9 b).2.1 := by decide +kernel
theorem tyX9_ok : ∀ k, k < 15 → parseFieldDescriptor (TX9 k).2.2.1 = some (tyX9 k) := by decide +kernel
abbrev cX9_init : ByteArray := prog_1_method_1_code
def yX9_init : MethodName := ⟨RX9, "<init>", "()V"⟩
abbrev cX9_set : ByteArray := prog_1_method_2_code
def yX9_set : MethodName := ⟨RX9, "set", "(IIII)I"⟩
abbrev cX9_turn : ByteArray := prog_1_method_3_code
def yX9_turn : MethodName := ⟨RX9, "turn", "(II)I"⟩
abbrev cX9_copy : ByteArray := prog_1_method_4_code
def yX9_copy : MethodName := ⟨RX9, "copy", "(II)I"⟩
abbrev cX9_law : ByteArray := prog_1_method_5_code
def yX9_law : MethodName := ⟨RX9, "law", "(IIII)I"⟩
abbrev cX9_repeal : ByteArray := prog_1_method_6_code
def yX9_repeal : MethodName := ⟨RX9, "repeal", "()I"⟩
abbrev cX9_pace : ByteArray := prog_1_method_7_code
def yX9_pace : MethodName := ⟨RX9, "pace", "(I)I"⟩
abbrev cX9_fastest : ByteArray := prog_1_method_8_code
def yX9_fastest : MethodName := ⟨RX9, "fastest", "()I"⟩
abbrev cX9_act : ByteArray := prog_1_method_9_code
def yX9_act : MethodName := ⟨RX9, "act", "(IIII)I"⟩
abbrev cX9_would : ByteArray := prog_1_method_10_code
def yX9_would : MethodName := ⟨RX9, "would", "(IIII)I"⟩
abbrev cX9_arm : ByteArray := prog_1_method_11_code
def yX9_arm : MethodName := ⟨RX9, "arm", "(I)I"⟩
abbrev cX9_knot : ByteArray := prog_1_method_12_code
def yX9_knot : MethodName := ⟨RX9, "knot", "(II)I"⟩
abbrev cX9_forget : ByteArray := prog_1_method_13_code
def yX9_forget : MethodName := ⟨RX9, "forget", "()I"⟩
abbrev cX9_place : ByteArray := prog_1_method_14_code
def yX9_place : MethodName := ⟨RX9, "place", "(III)I"⟩
abbrev cX9_nearest : ByteArray := prog_1_method_15_code
def yX9_nearest : MethodName := ⟨RX9, "nearest", "(II)I"⟩
abbrev cX9_stop : ByteArray := prog_1_method_16_code
def yX9_stop : MethodName := ⟨RX9, "stop", "(I)I"⟩
abbrev cX9_start : ByteArray := prog_1_method_17_code
def yX9_start : MethodName := ⟨RX9, "start", "(I)I"⟩
abbrev cX9_job : ByteArray := prog_1_method_18_code
def yX9_job : MethodName := ⟨RX9, "job", "(II)I"⟩
abbrev cX9_aim : ByteArray := prog_1_method_19_code
def yX9_aim : MethodName := ⟨RX9, "aim", "(III)I"⟩
abbrev cX9_glass : ByteArray := prog_1_method_20_code
def yX9_glass : MethodName := ⟨RX9, "glass", "(II)I"⟩
abbrev cX9_mould : ByteArray := prog_1_method_21_code
def yX9_mould : MethodName := ⟨RX9, "mould", "(II)I"⟩
abbrev cX9_swab : ByteArray := prog_1_method_22_code
def yX9_swab : MethodName := ⟨RX9, "swab", "(I)I"⟩
abbrev cX9_repair : ByteArray := prog_1_method_23_code
def yX9_repair : MethodName := ⟨RX9, "repair", "(I)I"⟩
abbrev cX9_pull : ByteArray := prog_1_method_24_code
def yX9_pull : MethodName := ⟨RX9, "pull", "(IZ)I"⟩
abbrev cX9_rule : ByteArray := prog_1_method_25_code
def yX9_rule : MethodName := ⟨RX9, "rule", "(II)I"⟩
abbrev cX9_book : ByteArray := prog_1_method_26_code
def yX9_book : MethodName := ⟨RX9, "book", "(II)I"⟩
abbrev cX9_cut : ByteArray := prog_1_method_27_code
def yX9_cut : MethodName := ⟨RX9, "cut", "(I)I"⟩
abbrev cX9_drain : ByteArray := prog_1_method_28_code
def yX9_drain : MethodName := ⟨RX9, "drain", "()I"⟩
abbrev cX9_bottle : ByteArray := prog_1_method_29_code
def yX9_bottle : MethodName := ⟨RX9, "bottle", "(II)I"⟩
abbrev cX9_many : ByteArray := prog_1_method_30_code
def yX9_many : MethodName := ⟨RX9, "many", "(I)I"⟩
abbrev cX9_makeBottle : ByteArray := prog_1_method_31_code
def yX9_makeBottle : MethodName := ⟨RX9, "makeBottle", "()V"⟩
abbrev cX9_faultOfCut : ByteArray := prog_1_method_32_code
def yX9_faultOfCut : MethodName := ⟨RX9, "faultOfCut", "(II)I"⟩
abbrev cX9_verdict : ByteArray := prog_1_method_33_code
def yX9_verdict : MethodName := ⟨RX9, "verdict", "(LGobRow$Bottle;)I"⟩
abbrev cX9_takeOffEldest : ByteArray := prog_1_method_34_code
def yX9_takeOffEldest : MethodName := ⟨RX9, "takeOffEldest", "()V"⟩
abbrev cX9_isSetting : ByteArray := prog_1_method_35_code
def yX9_isSetting : MethodName := ⟨RX9, "isSetting", "(IIII)Z"⟩
abbrev cX9_isLaw : ByteArray := prog_1_method_36_code
def yX9_isLaw : MethodName := ⟨RX9, "isLaw", "(IIII)Z"⟩
abbrev cX9_isBetween : ByteArray := prog_1_method_37_code
def yX9_isBetween : MethodName := ⟨RX9, "isBetween", "(III)Z"⟩
abbrev cX9_isDegree : ByteArray := prog_1_method_38_code
def yX9_isDegree : MethodName := ⟨RX9, "isDegree", "(I)Z"⟩
abbrev cX9_isSection : ByteArray := prog_1_method_39_code
def yX9_isSection : MethodName := ⟨RX9, "isSection", "(I)Z"⟩
abbrev cX9_isAct : ByteArray := prog_1_method_40_code
def yX9_isAct : MethodName := ⟨RX9, "isAct", "(I)Z"⟩
abbrev cX9_isArm : ByteArray := prog_1_method_41_code
def yX9_isArm : MethodName := ⟨RX9, "isArm", "(I)Z"⟩
abbrev cX9_isJob : ByteArray := prog_1_method_42_code
def yX9_isJob : MethodName := ⟨RX9, "isJob", "(I)Z"⟩
abbrev cX9_isColour : ByteArray := prog_1_method_43_code
def yX9_isColour : MethodName := ⟨RX9, "isColour", "(I)Z"⟩
abbrev cX9_isMould : ByteArray := prog_1_method_44_code
def yX9_isMould : MethodName := ⟨RX9, "isMould", "(I)Z"⟩
abbrev cX9_asNumber : ByteArray := prog_1_method_45_code
def yX9_asNumber : MethodName := ⟨RX9, "asNumber", "(Z)I"⟩
abbrev cX9_wayUp : ByteArray := prog_1_method_46_code
def yX9_wayUp : MethodName := ⟨RX9, "wayUp", "(II)I"⟩
abbrev cX9_greatestDivisor : ByteArray := prog_1_method_47_code
def yX9_greatestDivisor : MethodName := ⟨RX9, "greatestDivisor", "(II)I"⟩
def RX10 : String := "GobRowModel"
def TX10 : u_T := fun k => match k with
  | 0 => ("GobRowModel", "onAt", "[I", true)
  | 1 => ("GobRowModel", "offAt", "[I", true)
  | 2 => ("GobRowModel", "laws", "I", false)
  | 3 => ("GobRowModel", "lawKind", "[I", true)
  | 4 => ("GobRowModel", "lawA", "[I", true)
  | 5 => ("GobRowModel", "lawB", "[I", true)
  | 6 => ("GobRowModel", "lawN", "[I", true)
  | 7 => ("GobRowModel", "pace", "I", false)
  | 8 => ("GobRowModel", "knotMany", "[I", true)
  | 9 => ("GobRowModel", "knotDegree", "[I", true)
  | 10 => ("GobRowModel", "knotPlace", "[I", true)
  | 11 => ("GobRowModel", "told", "I", false)
  | 12 => ("GobRowModel", "toldDegree", "[I", true)
  | 13 => ("GobRowModel", "toldPlace", "[I", true)
  | 14 => ("GobRowModel", "runs", "I", false)
  | 15 => ("GobRowModel", "order", "[I", true)
  | 16 => ("GobRowModel", "turn", "I", false)
  | 17 => ("GobRowModel", "jobOf", "[I", true)
  | 18 => ("GobRowModel", "mouldOf", "[I", true)
  | 19 => ("GobRowModel", "aimOf", "[I", true)
  | 20 => ("GobRowModel", "colourOf", "[I", true)
  | 21 => ("GobRowModel", "uses", "[I", true)
  | 22 => ("GobRowModel", "dust", "[I", true)
  | 23 => ("GobRowModel", "isPulled", "[Z", true)
  | 24 => ("GobRowModel", "goodOf", "[I", true)
  | 25 => ("GobRowModel", "badOf", "[I", true)
  | 26 => ("GobRowModel", "tube", "I", false)
  | 27 => ("GobRowModel", "drift", "I", false)
  | 28 => ("GobRowModel", "lasts", "I", false)
  | 29 => ("GobRowModel", "colour", "I", false)
  | 30 => ("GobRowModel", "mixed", "I", false)
  | 31 => ("GobRowModel", "cuts", "I", false)
  | 32 => ("GobRowModel", "belt", "I", false)
  | 33 => ("GobRowModel", "number", "[I", true)
  | 34 => ("GobRowModel", "section", "[I", true)
  | 35 => ("GobRowModel", "mould", "[I", true)
  | 36 => ("GobRowModel", "job", "[I", true)
  | 37 => ("GobRowModel", "weight", "[I", true)
  | 38 => ("GobRowModel", "aimThen", "[I", true)
  | 39 => ("GobRowModel", "reason", "[I", true)
  | 40 => ("GobRowModel", "judged", "[I", true)
  | 41 => ("GobRowModel", "above", "I", false)
  | 42 => ("GobRowModel", "below", "I", false)
  | 43 => ("GobRowModel", "wasDegree", "[I", true)
  | _ => ("GobRowModel", "wasPlace", "[I", true)
def tyX10 : Nat → FieldType := fun k => match k with
  | 0 => .array .int
  | 1 => .array .int
  | 2 => .int
  | 3 => .array .int
  | 4 => .array .int
  | 5 => .array .int
  | 6 => .array .int
  | 7 => .int
  | 8 => .array .int
  | 9 => .array .int
  | 10 => .array .int
  | 11 => .int
  | 12 => .array .int
  | 13 => .array .int
  | 14 => .int
  | 15 => .array .int
  | 16 => .int
  | 17 => .array .int
  | 18 => .array .int
  | 19 => .array .int
  | 20 => .array .int
  | 21 => .array .int
  | 22 => .array .int
  | 23 => .array .boolean
  | 24 => .array .int
  | 25 => .array .int
  | 26 => .int
  | 27 => .int
  | 28 => .int
  | 29 => .int
  | 30 => .int
  | 31 => .int
  | 32 => .int
  | 33 => .array .int
  | 34 => .array .int
  | 35 => .array .int
  | 36 => .array .int
  | 37 => .array .int
  | 38 => .array .int
  | 39 => .array .int
  | 40 => .array .int
  | 41 => .int
  | 42 => .int
  | 43 => .array .int
  | _ => .array .int
abbrev wsX100 : List Cond := u_ws RX10 TX10 45
theorem nmX10 : ∀ a, a < 45 → ∀ b, b < 45 → a ≠ b → (TX10 a).2.1 ≠ (TX10 b).2.1 := by decide +kernel
theorem tyX10_ok : ∀ k, k < 45 → parseFieldDescriptor (TX10 k).2.2.1 = some (tyX10 k) := by decide +kernel
abbrev cX10_init : ByteArray := prog_12_method_1_code
def yX10_init : MethodName := ⟨RX10, "<init>", "()V"⟩
abbrev cX10_in : ByteArray := prog_12_method_2_code
def yX10_in : MethodName := ⟨RX10, "in", "(III)Z"⟩
abbrev cX10_isSection : ByteArray := prog_12_method_3_code
def yX10_isSection : MethodName := ⟨RX10, "isSection", "(I)Z"⟩
abbrev cX10_isAct : ByteArray := prog_12_method_4_code
def yX10_isAct : MethodName := ⟨RX10, "isAct", "(I)Z"⟩
abbrev cX10_isDegree : ByteArray := prog_12_method_5_code
def yX10_isDegree : MethodName := ⟨RX10, "isDegree", "(I)Z"⟩
abbrev cX10_isArm : ByteArray := prog_12_method_6_code
def yX10_isArm : MethodName := ⟨RX10, "isArm", "(I)Z"⟩
abbrev cX10_isMould : ByteArray := prog_12_method_7_code
def yX10_isMould : MethodName := ⟨RX10, "isMould", "(I)Z"⟩
abbrev cX10_isJob : ByteArray := prog_12_method_8_code
def yX10_isJob : MethodName := ⟨RX10, "isJob", "(I)Z"⟩
abbrev cX10_lengthOf : ByteArray := prog_12_method_9_code
def yX10_lengthOf : MethodName := ⟨RX10, "lengthOf", "(II)I"⟩
abbrev cX10_isDone : ByteArray := prog_12_method_10_code
def yX10_isDone : MethodName := ⟨RX10, "isDone", "(III)Z"⟩
abbrev cX10_keeps : ByteArray := prog_12_method_11_code
def yX10_keeps : MethodName := ⟨RX10, "keeps", "(III)Z"⟩
abbrev cX10_brokenBy : ByteArray := prog_12_method_12_code
def yX10_brokenBy : MethodName := ⟨RX10, "brokenBy", "(I)I"⟩
abbrev cX10_brokenAt : ByteArray := prog_12_method_13_code
def yX10_brokenAt : MethodName := ⟨RX10, "brokenAt", "(I)I"⟩
abbrev cX10_maySet : ByteArray := prog_12_method_14_code
def yX10_maySet : MethodName := ⟨RX10, "maySet", "(IIII)Z"⟩
abbrev cX10_set : ByteArray := prog_12_method_15_code
def yX10_set : MethodName := ⟨RX10, "set", "(IIII)I"⟩
abbrev cX10_would : ByteArray := prog_12_method_16_code
def yX10_would : MethodName := ⟨RX10, "would", "(IIII)I"⟩
abbrev cX10_turn : ByteArray := prog_12_method_17_code
def yX10_turn : MethodName := ⟨RX10, "turn", "(II)I"⟩
abbrev cX10_copy : ByteArray := prog_12_method_18_code
def yX10_copy : MethodName := ⟨RX10, "copy", "(II)I"⟩
abbrev cX10_law : ByteArray := prog_12_method_19_code
def yX10_law : MethodName := ⟨RX10, "law", "(IIII)I"⟩
abbrev cX10_repeal : ByteArray := prog_12_method_20_code
def yX10_repeal : MethodName := ⟨RX10, "repeal", "()I"⟩
abbrev cX10_pace : ByteArray := prog_12_method_21_code
def yX10_pace : MethodName := ⟨RX10, "pace", "(I)I"⟩
abbrev cX10_fastest : ByteArray := prog_12_method_22_code
def yX10_fastest : MethodName := ⟨RX10, "fastest", "()I"⟩
abbrev cX10_act : ByteArray := prog_12_method_23_code
def yX10_act : MethodName := ⟨RX10, "act", "(IIII)I"⟩
abbrev cX10_find : ByteArray := prog_12_method_24_code
def yX10_find : MethodName := ⟨RX10, "find", "(II)V"⟩
abbrev cX10_areClear : ByteArray := prog_12_method_25_code
def yX10_areClear : MethodName := ⟨RX10, "areClear", "()Z"⟩
abbrev cX10_arm : ByteArray := prog_12_method_26_code
def yX10_arm : MethodName := ⟨RX10, "arm", "(I)I"⟩
abbrev cX10_knot : ByteArray := prog_12_method_27_code
def yX10_knot : MethodName := ⟨RX10, "knot", "(II)I"⟩
abbrev cX10_forget : ByteArray := prog_12_method_28_code
def yX10_forget : MethodName := ⟨RX10, "forget", "()I"⟩
abbrev cX10_common : ByteArray := prog_12_method_29_code
def yX10_common : MethodName := ⟨RX10, "common", "(II)I"⟩
abbrev cX10_place : ByteArray := prog_12_method_30_code
def yX10_place : MethodName := ⟨RX10, "place", "(III)I"⟩
abbrev cX10_nearest : ByteArray := prog_12_method_31_code
def yX10_nearest : MethodName := ⟨RX10, "nearest", "(II)I"⟩
abbrev cX10_placeInOrder : ByteArray := prog_12_method_32_code
def yX10_placeInOrder : MethodName := ⟨RX10, "placeInOrder", "(I)I"⟩
abbrev cX10_stop : ByteArray := prog_12_method_33_code
def yX10_stop : MethodName := ⟨RX10, "stop", "(I)I"⟩
abbrev cX10_start : ByteArray := prog_12_method_34_code
def yX10_start : MethodName := ⟨RX10, "start", "(I)I"⟩
abbrev cX10_job : ByteArray := prog_12_method_35_code
def yX10_job : MethodName := ⟨RX10, "job", "(II)I"⟩
abbrev cX10_aim : ByteArray := prog_12_method_36_code
def yX10_aim : MethodName := ⟨RX10, "aim", "(III)I"⟩
abbrev cX10_glass : ByteArray := prog_12_method_37_code
def yX10_glass : MethodName := ⟨RX10, "glass", "(II)I"⟩
abbrev cX10_sectionOf : ByteArray := prog_12_method_38_code
def yX10_sectionOf : MethodName := ⟨RX10, "sectionOf", "(I)I"⟩
abbrev cX10_mould : ByteArray := prog_12_method_39_code
def yX10_mould : MethodName := ⟨RX10, "mould", "(II)I"⟩
abbrev cX10_swab : ByteArray := prog_12_method_40_code
def yX10_swab : MethodName := ⟨RX10, "swab", "(I)I"⟩
abbrev cX10_repair : ByteArray := prog_12_method_41_code
def yX10_repair : MethodName := ⟨RX10, "repair", "(I)I"⟩
abbrev cX10_pull : ByteArray := prog_12_method_42_code
def yX10_pull : MethodName := ⟨RX10, "pull", "(IZ)I"⟩
abbrev cX10_rule : ByteArray := prog_12_method_43_code
def yX10_rule : MethodName := ⟨RX10, "rule", "(II)I"⟩
abbrev cX10_book : ByteArray := prog_12_method_44_code
def yX10_book : MethodName := ⟨RX10, "book", "(II)I"⟩
abbrev cX10_judgeOf : ByteArray := prog_12_method_45_code
def yX10_judgeOf : MethodName := ⟨RX10, "judgeOf", "(I)I"⟩
abbrev cX10_comeOff : ByteArray := prog_12_method_46_code
def yX10_comeOff : MethodName := ⟨RX10, "comeOff", "()V"⟩
abbrev cX10_cutOne : ByteArray := prog_12_method_47_code
def yX10_cutOne : MethodName := ⟨RX10, "cutOne", "()V"⟩
abbrev cX10_cut : ByteArray := prog_12_method_48_code
def yX10_cut : MethodName := ⟨RX10, "cut", "(I)I"⟩
abbrev cX10_drain : ByteArray := prog_12_method_49_code
def yX10_drain : MethodName := ⟨RX10, "drain", "()I"⟩
abbrev cX10_bottle : ByteArray := prog_12_method_50_code
def yX10_bottle : MethodName := ⟨RX10, "bottle", "(II)I"⟩
abbrev cX10_many : ByteArray := prog_12_method_51_code
def yX10_many : MethodName := ⟨RX10, "many", "(I)I"⟩
def RJ9 : String := "java/lang/Math"
def TJ9 : u_T := fun k => match k with
  | _ => ("", "", "", false)
def tyJ9 : Nat → FieldType := fun k => match k with
  | _ => .int
abbrev wsJ90 : List Cond := u_ws RJ9 TJ9 0
theorem nmJ9 : ∀ a, a < 0 → ∀ b, b < 0 → a ≠ b → (TJ9 a).2.1 ≠ (TJ9 b).2.1 := by decide +kernel
theorem tyJ9_ok : ∀ k, k < 0 → parseFieldDescriptor (TJ9 k).2.2.1 = some (tyJ9 k) := by decide +kernel
abbrev cJ9_floorMod_7cf53 : ByteArray := prog_13_method_50_code
def yJ9_floorMod_7cf53 : MethodName := ⟨RJ9, "floorMod", "(II)I"⟩
abbrev cJ9_abs_0f7a4 : ByteArray := prog_13_method_59_code
def yJ9_abs_0f7a4 : MethodName := ⟨RJ9, "abs", "(I)I"⟩
abbrev cJ9_max_7cf53 : ByteArray := prog_13_method_65_code
def yJ9_max_7cf53 : MethodName := ⟨RJ9, "max", "(II)I"⟩
abbrev cJ9_min_7cf53 : ByteArray := prog_13_method_69_code
def yJ9_min_7cf53 : MethodName := ⟨RJ9, "min", "(II)I"⟩
def RL : String := "GobRowLaw"
abbrev cL_law : ByteArray := code
def yL_law : MethodName := ⟨RL, "law", "([I)Z"⟩
def wsX1_init : List Cond := .code yX1_init cX1_init 1 none :: ([.methodLink RX1 3 objectInit, .instanceMethod objectInit, .code objectInit ⟨#[0xb1]⟩ 1 none, .fieldLink RX1 9 "GobRow$Bottle" "number" "I", .fieldLink RX1 15 "GobRow$Bottle" "section" "I", .fieldLink RX1 18 "GobRow$Bottle" "mould" "I", .fieldLink RX1 21 "GobRow$Bottle" "job" "I", .fieldLink RX1 24 "GobRow$Bottle" "aim" "I", .fieldLink RX1 27 "GobRow$Bottle" "weight" "I", .fieldLink RX1 30 "GobRow$Bottle" "fault" "I"] ++ wsX10)
def wsX0_init : List Cond := .code yX0_init cX0_init 2 none :: ([.methodLink RX0 3 objectInit, .instanceMethod objectInit, .code objectInit ⟨#[0xb1]⟩ 1 none, .classLink RX0 9 RX1, .fieldLink RX0 11 "GobRow$Belt" "ring" "[LGobRow$Bottle;", .fieldLink RX0 17 "GobRow$Belt" "eldest" "I", .fieldLink RX0 21 "GobRow$Belt" "count" "I", .instantiable RX1 7, .initialized RX1, .instanceMethod yX1_init, .code yX1_init cX1_init 1 none, .methodLink RX1 3 objectInit, .fieldLink RX1 9 "GobRow$Bottle" "number" "I", .fieldLink RX1 15 "GobRow$Bottle" "section" "I", .fieldLink RX1 18 "GobRow$Bottle" "mould" "I", .fieldLink RX1 21 "GobRow$Bottle" "job" "I", .fieldLink RX1 24 "GobRow$Bottle" "aim" "I", .fieldLink RX1 27 "GobRow$Bottle" "weight" "I", .fieldLink RX1 30 "GobRow$Bottle" "fault" "I"] ++ wsX00 ++ wsX10)
def wsX0_fromEldest : List Cond := .code yX0_fromEldest cX0_fromEldest 2 (some (.object "GobRow$Bottle")) :: ([.fieldLink RX0 11 "GobRow$Belt" "ring" "[LGobRow$Bottle;", .fieldLink RX0 17 "GobRow$Belt" "eldest" "I"] ++ wsX00)
def wsX0_putLast : List Cond := .code yX0_putLast cX0_putLast 2 (some (.object "GobRow$Bottle")) :: ([.fieldLink RX0 21 "GobRow$Belt" "count" "I", .methodLink RX0 25 yX0_fromEldest, .instanceMethod yX0_fromEldest, .selects RX0 yX0_fromEldest yX0_fromEldest, .initialized RX0, .code yX0_fromEldest cX0_fromEldest 2 (some (.object "GobRow$Bottle")), .fieldLink RX0 11 "GobRow$Belt" "ring" "[LGobRow$Bottle;", .fieldLink RX0 17 "GobRow$Belt" "eldest" "I"] ++ wsX00)
def wsX0_takeEldest : List Cond := .code yX0_takeEldest cX0_takeEldest 2 (some (.object "GobRow$Bottle")) :: ([.fieldLink RX0 11 "GobRow$Belt" "ring" "[LGobRow$Bottle;", .fieldLink RX0 17 "GobRow$Belt" "eldest" "I", .fieldLink RX0 21 "GobRow$Belt" "count" "I"] ++ wsX00)
def wsX2_init : List Cond := .code yX2_init cX2_init 2 none :: ([.methodLink RX2 3 objectInit, .instanceMethod objectInit, .code objectInit ⟨#[0xb1]⟩ 1 none, .arrayClass .int, .fieldLink RX2 9 "GobRow$Drum" "on" "[I", .fieldLink RX2 15 "GobRow$Drum" "off" "[I"] ++ wsX20)
def wsX2_change : List Cond := .code yX2_change cX2_change 4 none :: ([.fieldLink RX2 9 "GobRow$Drum" "on" "[I", .fieldLink RX2 15 "GobRow$Drum" "off" "[I"] ++ wsX20)
def wsJ9_floorMod_7cf53 : List Cond := .code yJ9_floorMod_7cf53 cJ9_floorMod_7cf53 3 (some .int) :: ([])
def wsX2_shift : List Cond := .code yX2_shift cX2_shift 3 none :: ([.fieldLink RX2 9 "GobRow$Drum" "on" "[I", .fieldLink RX2 15 "GobRow$Drum" "off" "[I", .methodLink RX2 18 yJ9_floorMod_7cf53, .static yJ9_floorMod_7cf53, .initialized RJ9, .code yJ9_floorMod_7cf53 cJ9_floorMod_7cf53 3 (some .int)] ++ wsX20)
def wsX2_become : List Cond := .code yX2_become cX2_become 3 none :: ([.fieldLink RX2 9 "GobRow$Drum" "on" "[I", .fieldLink RX2 15 "GobRow$Drum" "off" "[I"] ++ wsX20)
def wsX9_wayUp : List Cond := .code yX9_wayUp cX9_wayUp 2 (some .int) :: ([])
def wsX2_length : List Cond := .code yX2_length cX2_length 2 (some .int) :: ([.fieldLink RX2 9 "GobRow$Drum" "on" "[I", .fieldLink RX2 15 "GobRow$Drum" "off" "[I", .static yX9_wayUp, .initialized RX9, .code yX9_wayUp cX9_wayUp 2 (some .int)] ++ wsX20)
def wsX2_isDone : List Cond := .code yX2_isDone cX2_isDone 3 (some .boolean) :: ([.fieldLink RX2 9 "GobRow$Drum" "on" "[I", .static yX9_wayUp, .initialized RX9, .code yX9_wayUp cX9_wayUp 2 (some .int), .methodLink RX2 27 yX2_length, .instanceMethod yX2_length, .selects RX2 yX2_length yX2_length, .initialized RX2, .code yX2_length cX2_length 2 (some .int), .fieldLink RX2 15 "GobRow$Drum" "off" "[I"] ++ wsX20)
def wsX2_isInside : List Cond := .code yX2_isInside cX2_isInside 3 (some .boolean) :: ([.fieldLink RX2 9 "GobRow$Drum" "on" "[I", .static yX9_wayUp, .initialized RX9, .code yX9_wayUp cX9_wayUp 2 (some .int), .methodLink RX2 27 yX2_length, .instanceMethod yX2_length, .selects RX2 yX2_length yX2_length, .initialized RX2, .code yX2_length cX2_length 2 (some .int), .fieldLink RX2 15 "GobRow$Drum" "off" "[I"] ++ wsX20)
def wsX8_init : List Cond := .code yX8_init cX8_init 1 none :: ([.methodLink RX8 3 objectInit, .instanceMethod objectInit, .code objectInit ⟨#[0xb1]⟩ 1 none, .fieldLink RX8 9 "GobRow$Rule" "kind" "I", .fieldLink RX8 15 "GobRow$Rule" "a" "I", .fieldLink RX8 18 "GobRow$Rule" "b" "I", .fieldLink RX8 21 "GobRow$Rule" "n" "I"] ++ wsX80)
def wsX3_init_r1 : List Cond := [Cond.methodLink RX3 3 objectInit, Cond.instanceMethod objectInit, Cond.code objectInit ⟨#[0xb1]⟩ 1 none, Cond.classLink RX3 9 RX2, Cond.fieldLink RX3 11 "GobRow$Drums" "rows" "[LGobRow$Drum;", Cond.classLink RX3 17 RX8, Cond.fieldLink RX3 19 "GobRow$Drums" "laws" "[LGobRow$Rule;", Cond.instantiable RX2 2, Cond.initialized RX2, Cond.fieldLink RX3 24 "GobRow$Drums" "trial" "LGobRow$Drum;", Cond.fieldLink RX3 28 "GobRow$Drums" "lawCount" "I", Cond.fieldLink RX3 32 "GobRow$Drums" "turnsAMinute" "I", Cond.instantiable RX8 4, Cond.initialized RX8, Cond.methodLink RX3 23 yX2_init, Cond.instanceMethod yX2_init, Cond.code yX2_init cX2_init 2 none, Cond.methodLink RX2 3 objectInit, Cond.arrayClass .int, Cond.fieldLink RX2 9 "GobRow$Drum" "on" "[I", Cond.fieldLink RX2 15 "GobRow$Drum" "off" "[I", Cond.instanceMethod yX8_init, Cond.code yX8_init cX8_init 1 none, Cond.methodLink RX8 3 objectInit]
def wsX3_init_r2 : List Cond := [Cond.fieldLink RX8 9 "GobRow$Rule" "kind" "I", Cond.fieldLink RX8 15 "GobRow$Rule" "a" "I", Cond.fieldLink RX8 18 "GobRow$Rule" "b" "I", Cond.fieldLink RX8 21 "GobRow$Rule" "n" "I"]
def wsX3_init : List Cond := .code yX3_init cX3_init 2 none :: ((wsX3_init_r1 ++ wsX3_init_r2) ++ wsX30 ++ wsX20 ++ wsX80)
def wsX8_isBroken_r1 : List Cond := [Cond.fieldLink RX8 9 "GobRow$Rule" "kind" "I", Cond.fieldLink RX8 24 "GobRow$Drum" "off" "[I", Cond.fieldLink RX8 15 "GobRow$Rule" "a" "I", Cond.fieldLink RX8 30 "GobRow$Drum" "on" "[I", Cond.fieldLink RX8 18 "GobRow$Rule" "b" "I", Cond.fieldLink RX8 21 "GobRow$Rule" "n" "I", Cond.static yX9_wayUp, Cond.initialized RX9, Cond.code yX9_wayUp cX9_wayUp 2 (some .int), Cond.methodLink RX8 37 yX2_isDone, Cond.instanceMethod yX2_isDone, Cond.selects RX2 yX2_isDone yX2_isDone, Cond.initialized RX2, Cond.code yX2_isDone cX2_isDone 3 (some .boolean), Cond.fieldLink RX2 9 "GobRow$Drum" "on" "[I", Cond.methodLink RX2 27 yX2_length, Cond.instanceMethod yX2_length, Cond.selects RX2 yX2_length yX2_length, Cond.code yX2_length cX2_length 2 (some .int), Cond.fieldLink RX2 15 "GobRow$Drum" "off" "[I", Cond.methodLink RX8 41 yX2_length, Cond.methodLink RX8 45 yX2_isInside, Cond.instanceMethod yX2_isInside, Cond.selects RX2 yX2_isInside yX2_isInside]
def wsX8_isBroken_r2 : List Cond := [Cond.code yX2_isInside cX2_isInside 3 (some .boolean)]
def wsX8_isBroken : List Cond := .code yX8_isBroken cX8_isBroken 3 (some .boolean) :: ((wsX8_isBroken_r1 ++ wsX8_isBroken_r2) ++ wsX80 ++ wsX20)
def wsX3_brokenIf_r1 : List Cond := [Cond.fieldLink RX3 24 "GobRow$Drums" "trial" "LGobRow$Drum;", Cond.fieldLink RX3 11 "GobRow$Drums" "rows" "[LGobRow$Drum;", Cond.fieldLink RX3 28 "GobRow$Drums" "lawCount" "I", Cond.fieldLink RX3 19 "GobRow$Drums" "laws" "[LGobRow$Rule;", Cond.fieldLink RX3 32 "GobRow$Drums" "turnsAMinute" "I", Cond.methodLink RX3 36 yX2_become, Cond.instanceMethod yX2_become, Cond.selects RX2 yX2_become yX2_become, Cond.initialized RX2, Cond.code yX2_become cX2_become 3 none, Cond.fieldLink RX2 9 "GobRow$Drum" "on" "[I", Cond.fieldLink RX2 15 "GobRow$Drum" "off" "[I", Cond.methodLink RX3 40 yX2_change, Cond.instanceMethod yX2_change, Cond.selects RX2 yX2_change yX2_change, Cond.code yX2_change cX2_change 4 none, Cond.methodLink RX3 44 yX8_isBroken, Cond.instanceMethod yX8_isBroken, Cond.selects RX8 yX8_isBroken yX8_isBroken, Cond.initialized RX8, Cond.code yX8_isBroken cX8_isBroken 3 (some .boolean), Cond.fieldLink RX8 9 "GobRow$Rule" "kind" "I", Cond.fieldLink RX8 24 "GobRow$Drum" "off" "[I", Cond.fieldLink RX8 15 "GobRow$Rule" "a" "I"]
def wsX3_brokenIf_r2 : List Cond := [Cond.fieldLink RX8 30 "GobRow$Drum" "on" "[I", Cond.fieldLink RX8 18 "GobRow$Rule" "b" "I", Cond.fieldLink RX8 21 "GobRow$Rule" "n" "I", Cond.static yX9_wayUp, Cond.initialized RX9, Cond.code yX9_wayUp cX9_wayUp 2 (some .int), Cond.methodLink RX8 37 yX2_isDone, Cond.instanceMethod yX2_isDone, Cond.selects RX2 yX2_isDone yX2_isDone, Cond.code yX2_isDone cX2_isDone 3 (some .boolean), Cond.methodLink RX2 27 yX2_length, Cond.instanceMethod yX2_length, Cond.selects RX2 yX2_length yX2_length, Cond.code yX2_length cX2_length 2 (some .int), Cond.methodLink RX8 41 yX2_length, Cond.methodLink RX8 45 yX2_isInside, Cond.instanceMethod yX2_isInside, Cond.selects RX2 yX2_isInside yX2_isInside, Cond.code yX2_isInside cX2_isInside 3 (some .boolean)]
def wsX3_brokenIf : List Cond := .code yX3_brokenIf cX3_brokenIf 6 (some .int) :: ((wsX3_brokenIf_r1 ++ wsX3_brokenIf_r2) ++ wsX30 ++ wsX20 ++ wsX80)
def wsX3_anyBreaks_r1 : List Cond := [Cond.fieldLink RX3 19 "GobRow$Drums" "laws" "[LGobRow$Rule;", Cond.fieldLink RX3 11 "GobRow$Drums" "rows" "[LGobRow$Drum;", Cond.methodLink RX3 44 yX8_isBroken, Cond.instanceMethod yX8_isBroken, Cond.selects RX8 yX8_isBroken yX8_isBroken, Cond.initialized RX8, Cond.code yX8_isBroken cX8_isBroken 3 (some .boolean), Cond.fieldLink RX8 9 "GobRow$Rule" "kind" "I", Cond.fieldLink RX8 24 "GobRow$Drum" "off" "[I", Cond.fieldLink RX8 15 "GobRow$Rule" "a" "I", Cond.fieldLink RX8 30 "GobRow$Drum" "on" "[I", Cond.fieldLink RX8 18 "GobRow$Rule" "b" "I", Cond.fieldLink RX8 21 "GobRow$Rule" "n" "I", Cond.static yX9_wayUp, Cond.initialized RX9, Cond.code yX9_wayUp cX9_wayUp 2 (some .int), Cond.methodLink RX8 37 yX2_isDone, Cond.instanceMethod yX2_isDone, Cond.selects RX2 yX2_isDone yX2_isDone, Cond.initialized RX2, Cond.code yX2_isDone cX2_isDone 3 (some .boolean), Cond.fieldLink RX2 9 "GobRow$Drum" "on" "[I", Cond.methodLink RX2 27 yX2_length, Cond.instanceMethod yX2_length]
def wsX3_anyBreaks_r2 : List Cond := [Cond.selects RX2 yX2_length yX2_length, Cond.code yX2_length cX2_length 2 (some .int), Cond.fieldLink RX2 15 "GobRow$Drum" "off" "[I", Cond.methodLink RX8 41 yX2_length, Cond.methodLink RX8 45 yX2_isInside, Cond.instanceMethod yX2_isInside, Cond.selects RX2 yX2_isInside yX2_isInside, Cond.code yX2_isInside cX2_isInside 3 (some .boolean)]
def wsX3_anyBreaks : List Cond := .code yX3_anyBreaks cX3_anyBreaks 4 (some .boolean) :: ((wsX3_anyBreaks_r1 ++ wsX3_anyBreaks_r2) ++ wsX30 ++ wsX80 ++ wsX20)
def wsX3_brokenAt_r1 : List Cond := [Cond.fieldLink RX3 28 "GobRow$Drums" "lawCount" "I", Cond.methodLink RX3 48 yX3_anyBreaks, Cond.instanceMethod yX3_anyBreaks, Cond.selects RX3 yX3_anyBreaks yX3_anyBreaks, Cond.initialized RX3, Cond.code yX3_anyBreaks cX3_anyBreaks 4 (some .boolean), Cond.fieldLink RX3 19 "GobRow$Drums" "laws" "[LGobRow$Rule;", Cond.fieldLink RX3 11 "GobRow$Drums" "rows" "[LGobRow$Drum;", Cond.methodLink RX3 44 yX8_isBroken, Cond.instanceMethod yX8_isBroken, Cond.selects RX8 yX8_isBroken yX8_isBroken, Cond.initialized RX8, Cond.code yX8_isBroken cX8_isBroken 3 (some .boolean), Cond.fieldLink RX8 9 "GobRow$Rule" "kind" "I", Cond.fieldLink RX8 24 "GobRow$Drum" "off" "[I", Cond.fieldLink RX8 15 "GobRow$Rule" "a" "I", Cond.fieldLink RX8 30 "GobRow$Drum" "on" "[I", Cond.fieldLink RX8 18 "GobRow$Rule" "b" "I", Cond.fieldLink RX8 21 "GobRow$Rule" "n" "I", Cond.static yX9_wayUp, Cond.initialized RX9, Cond.code yX9_wayUp cX9_wayUp 2 (some .int), Cond.methodLink RX8 37 yX2_isDone, Cond.instanceMethod yX2_isDone]
def wsX3_brokenAt_r2 : List Cond := [Cond.selects RX2 yX2_isDone yX2_isDone, Cond.initialized RX2, Cond.code yX2_isDone cX2_isDone 3 (some .boolean), Cond.fieldLink RX2 9 "GobRow$Drum" "on" "[I", Cond.methodLink RX2 27 yX2_length, Cond.instanceMethod yX2_length, Cond.selects RX2 yX2_length yX2_length, Cond.code yX2_length cX2_length 2 (some .int), Cond.fieldLink RX2 15 "GobRow$Drum" "off" "[I", Cond.methodLink RX8 41 yX2_length, Cond.methodLink RX8 45 yX2_isInside, Cond.instanceMethod yX2_isInside, Cond.selects RX2 yX2_isInside yX2_isInside, Cond.code yX2_isInside cX2_isInside 3 (some .boolean)]
def wsX3_brokenAt : List Cond := .code yX3_brokenAt cX3_brokenAt 3 (some .int) :: ((wsX3_brokenAt_r1 ++ wsX3_brokenAt_r2) ++ wsX30 ++ wsX80 ++ wsX20)
def wsX8_greatestPace : List Cond := .code yX8_greatestPace cX8_greatestPace 2 (some .int) :: ([.fieldLink RX8 9 "GobRow$Rule" "kind" "I", .fieldLink RX8 21 "GobRow$Rule" "n" "I", .fieldLink RX8 15 "GobRow$Rule" "a" "I", .methodLink RX8 41 yX2_length, .instanceMethod yX2_length, .selects RX2 yX2_length yX2_length, .initialized RX2, .code yX2_length cX2_length 2 (some .int), .fieldLink RX2 9 "GobRow$Drum" "on" "[I", .fieldLink RX2 15 "GobRow$Drum" "off" "[I", .static yX9_wayUp, .initialized RX9, .code yX9_wayUp cX9_wayUp 2 (some .int)] ++ wsX80 ++ wsX20)
def wsX3_greatestPace_r1 : List Cond := [Cond.fieldLink RX3 28 "GobRow$Drums" "lawCount" "I", Cond.fieldLink RX3 19 "GobRow$Drums" "laws" "[LGobRow$Rule;", Cond.fieldLink RX3 11 "GobRow$Drums" "rows" "[LGobRow$Drum;", Cond.methodLink RX3 56 Lib.Math.min.name, Cond.static Lib.Math.min.name, Cond.initialized "java/lang/Math", Cond.code Lib.Math.min.name Lib.Math.min.code 2 (some .int), Cond.methodLink RX3 52 yX8_greatestPace, Cond.instanceMethod yX8_greatestPace, Cond.selects RX8 yX8_greatestPace yX8_greatestPace, Cond.initialized RX8, Cond.code yX8_greatestPace cX8_greatestPace 2 (some .int), Cond.fieldLink RX8 9 "GobRow$Rule" "kind" "I", Cond.fieldLink RX8 21 "GobRow$Rule" "n" "I", Cond.fieldLink RX8 15 "GobRow$Rule" "a" "I", Cond.methodLink RX8 41 yX2_length, Cond.instanceMethod yX2_length, Cond.selects RX2 yX2_length yX2_length, Cond.initialized RX2, Cond.code yX2_length cX2_length 2 (some .int), Cond.fieldLink RX2 9 "GobRow$Drum" "on" "[I", Cond.fieldLink RX2 15 "GobRow$Drum" "off" "[I", Cond.static yX9_wayUp, Cond.initialized RX9]
def wsX3_greatestPace_r2 : List Cond := [Cond.code yX9_wayUp cX9_wayUp 2 (some .int)]
def wsX3_greatestPace : List Cond := .code yX3_greatestPace cX3_greatestPace 4 (some .int) :: ((wsX3_greatestPace_r1 ++ wsX3_greatestPace_r2) ++ wsX30 ++ wsX80 ++ wsX20)
def wsX4_init : List Cond := .code yX4_init cX4_init 1 none :: ([.methodLink RX4 3 objectInit, .instanceMethod objectInit, .code objectInit ⟨#[0xb1]⟩ 1 none, .arrayClass .int, .fieldLink RX4 9 "GobRow$Knots" "degrees" "[I", .fieldLink RX4 15 "GobRow$Knots" "places" "[I", .fieldLink RX4 18 "GobRow$Knots" "count" "I"] ++ wsX40)
def wsX4_add : List Cond := .code yX4_add cX4_add 3 none :: ([.fieldLink RX4 9 "GobRow$Knots" "degrees" "[I", .fieldLink RX4 18 "GobRow$Knots" "count" "I", .fieldLink RX4 15 "GobRow$Knots" "places" "[I"] ++ wsX40)
def wsX4_latest : List Cond := .code yX4_latest cX4_latest 1 (some .int) :: ([.fieldLink RX4 18 "GobRow$Knots" "count" "I", .fieldLink RX4 9 "GobRow$Knots" "degrees" "[I"] ++ wsX40)
def wsX4_lastAhead : List Cond := .code yX4_lastAhead cX4_lastAhead 4 (some .int) :: ([.fieldLink RX4 18 "GobRow$Knots" "count" "I", .methodLink RX4 36 Lib.Math.max.name, .static Lib.Math.max.name, .initialized "java/lang/Math", .code Lib.Math.max.name Lib.Math.max.code 2 (some .int), .fieldLink RX4 9 "GobRow$Knots" "degrees" "[I"] ++ wsX40)
def wsX4_nextInRing : List Cond := .code yX4_nextInRing cX4_nextInRing 2 (some .int) :: ([.fieldLink RX4 18 "GobRow$Knots" "count" "I"] ++ wsX40)
def wsX4_below : List Cond := .code yX4_below cX4_below 4 (some .int) :: ([.fieldLink RX4 9 "GobRow$Knots" "degrees" "[I", .methodLink RX4 22 yX4_lastAhead, .instanceMethod yX4_lastAhead, .selects RX4 yX4_lastAhead yX4_lastAhead, .initialized RX4, .code yX4_lastAhead cX4_lastAhead 4 (some .int), .fieldLink RX4 18 "GobRow$Knots" "count" "I", .methodLink RX4 36 Lib.Math.max.name, .static Lib.Math.max.name, .initialized "java/lang/Math", .code Lib.Math.max.name Lib.Math.max.code 2 (some .int), .methodLink RX4 26 yX4_nextInRing, .instanceMethod yX4_nextInRing, .selects RX4 yX4_nextInRing yX4_nextInRing, .code yX4_nextInRing cX4_nextInRing 2 (some .int), .static yX9_wayUp, .initialized RX9, .code yX9_wayUp cX9_wayUp 2 (some .int)] ++ wsX40)
def wsX4_above : List Cond := .code yX4_above cX4_above 4 (some .int) :: ([.fieldLink RX4 15 "GobRow$Knots" "places" "[I", .fieldLink RX4 9 "GobRow$Knots" "degrees" "[I", .methodLink RX4 22 yX4_lastAhead, .instanceMethod yX4_lastAhead, .selects RX4 yX4_lastAhead yX4_lastAhead, .initialized RX4, .code yX4_lastAhead cX4_lastAhead 4 (some .int), .fieldLink RX4 18 "GobRow$Knots" "count" "I", .methodLink RX4 36 Lib.Math.max.name, .static Lib.Math.max.name, .initialized "java/lang/Math", .code Lib.Math.max.name Lib.Math.max.code 2 (some .int), .methodLink RX4 26 yX4_nextInRing, .instanceMethod yX4_nextInRing, .selects RX4 yX4_nextInRing yX4_nextInRing, .code yX4_nextInRing cX4_nextInRing 2 (some .int), .methodLink RX4 29 yX4_below, .instanceMethod yX4_below, .selects RX4 yX4_below yX4_below, .code yX4_below cX4_below 4 (some .int), .static yX9_wayUp, .initialized RX9, .code yX9_wayUp cX9_wayUp 2 (some .int)] ++ wsX40)
def wsX5_init : List Cond := .code yX5_init cX5_init 2 none :: ([.methodLink RX5 3 objectInit, .instanceMethod objectInit, .code objectInit ⟨#[0xb1]⟩ 1 none, .arrayClass .int, .fieldLink RX5 9 "GobRow$Moulds" "uses" "[I", .fieldLink RX5 15 "GobRow$Moulds" "dust" "[I", .arrayClass .boolean, .fieldLink RX5 18 "GobRow$Moulds" "pulled" "[Z", .fieldLink RX5 22 "GobRow$Moulds" "good" "[I", .fieldLink RX5 25 "GobRow$Moulds" "bad" "[I", .fieldLink RX5 28 "GobRow$Moulds" "inSection" "[I"] ++ wsX50)
def wsX5_sectionOf : List Cond := .code yX5_sectionOf cX5_sectionOf 3 (some .int) :: ([.fieldLink RX5 28 "GobRow$Moulds" "inSection" "[I"] ++ wsX50)
def wsX5_makeNew : List Cond := .code yX5_makeNew cX5_makeNew 2 none :: ([.fieldLink RX5 9 "GobRow$Moulds" "uses" "[I", .fieldLink RX5 15 "GobRow$Moulds" "dust" "[I", .fieldLink RX5 18 "GobRow$Moulds" "pulled" "[Z"] ++ wsX50)
def wsX5_enter : List Cond := .code yX5_enter cX5_enter 3 none :: ([.fieldLink RX5 22 "GobRow$Moulds" "good" "[I", .fieldLink RX5 25 "GobRow$Moulds" "bad" "[I"] ++ wsX50)
def wsX6_init : List Cond := .code yX6_init cX6_init 2 none :: ([.methodLink RX6 3 objectInit, .instanceMethod objectInit, .code objectInit ⟨#[0xb1]⟩ 1 none, .arrayClass .int, .fieldLink RX6 9 "GobRow$Order" "sections" "[I", .fieldLink RX6 15 "GobRow$Order" "turnAt" "I", .fieldLink RX6 19 "GobRow$Order" "count" "I"] ++ wsX60)
def wsX6_find : List Cond := .code yX6_find cX6_find 3 (some .int) :: ([.fieldLink RX6 19 "GobRow$Order" "count" "I", .fieldLink RX6 9 "GobRow$Order" "sections" "[I"] ++ wsX60)
def wsX6_leave : List Cond := .code yX6_leave cX6_leave 3 none :: ([.fieldLink RX6 19 "GobRow$Order" "count" "I", .fieldLink RX6 9 "GobRow$Order" "sections" "[I", .fieldLink RX6 15 "GobRow$Order" "turnAt" "I"] ++ wsX60)
def wsX6_join : List Cond := .code yX6_join cX6_join 2 none :: ([.fieldLink RX6 9 "GobRow$Order" "sections" "[I", .fieldLink RX6 19 "GobRow$Order" "count" "I"] ++ wsX60)
def wsX6_next : List Cond := .code yX6_next cX6_next 1 (some .int) :: ([.fieldLink RX6 19 "GobRow$Order" "count" "I", .fieldLink RX6 9 "GobRow$Order" "sections" "[I", .fieldLink RX6 15 "GobRow$Order" "turnAt" "I"] ++ wsX60)
def wsX6_pass : List Cond := .code yX6_pass cX6_pass 1 none :: ([.fieldLink RX6 15 "GobRow$Order" "turnAt" "I", .fieldLink RX6 19 "GobRow$Order" "count" "I"] ++ wsX60)
def wsX7_init : List Cond := .code yX7_init cX7_init 2 none :: ([.methodLink RX7 3 objectInit, .instanceMethod objectInit, .code objectInit ⟨#[0xb1]⟩ 1 none, .classLink RX7 9 RX4, .fieldLink RX7 11 "GobRow$Rail" "arms" "[LGobRow$Knots;", .instantiable RX4 3, .initialized RX4, .fieldLink RX7 18 "GobRow$Rail" "told" "LGobRow$Knots;", .instanceMethod yX4_init, .code yX4_init cX4_init 1 none, .methodLink RX4 3 objectInit, .arrayClass .int, .fieldLink RX4 9 "GobRow$Knots" "degrees" "[I", .fieldLink RX4 15 "GobRow$Knots" "places" "[I", .fieldLink RX4 18 "GobRow$Knots" "count" "I", .methodLink RX7 22 yX4_add, .instanceMethod yX4_add, .selects RX4 yX4_add yX4_add, .code yX4_add cX4_add 3 none] ++ wsX70 ++ wsX40)
def wsX7_swapWithTold : List Cond := .code yX7_swapWithTold cX7_swapWithTold 3 none :: ([.fieldLink RX7 11 "GobRow$Rail" "arms" "[LGobRow$Knots;", .fieldLink RX7 18 "GobRow$Rail" "told" "LGobRow$Knots;"] ++ wsX70)
def wsX7_isClearAt_r1 : List Cond := [Cond.methodLink RX7 46 yX4_below, Cond.instanceMethod yX4_below, Cond.selects RX4 yX4_below yX4_below, Cond.initialized RX4, Cond.code yX4_below cX4_below 4 (some .int), Cond.fieldLink RX4 9 "GobRow$Knots" "degrees" "[I", Cond.methodLink RX4 22 yX4_lastAhead, Cond.instanceMethod yX4_lastAhead, Cond.selects RX4 yX4_lastAhead yX4_lastAhead, Cond.code yX4_lastAhead cX4_lastAhead 4 (some .int), Cond.fieldLink RX4 18 "GobRow$Knots" "count" "I", Cond.methodLink RX4 36 Lib.Math.max.name, Cond.static Lib.Math.max.name, Cond.initialized "java/lang/Math", Cond.code Lib.Math.max.name Lib.Math.max.code 2 (some .int), Cond.methodLink RX4 26 yX4_nextInRing, Cond.instanceMethod yX4_nextInRing, Cond.selects RX4 yX4_nextInRing yX4_nextInRing, Cond.code yX4_nextInRing cX4_nextInRing 2 (some .int), Cond.static yX9_wayUp, Cond.initialized RX9, Cond.code yX9_wayUp cX9_wayUp 2 (some .int), Cond.methodLink RX7 50 yX4_above, Cond.instanceMethod yX4_above]
def wsX7_isClearAt_r2 : List Cond := [Cond.selects RX4 yX4_above yX4_above, Cond.code yX4_above cX4_above 4 (some .int), Cond.fieldLink RX4 15 "GobRow$Knots" "places" "[I", Cond.methodLink RX4 29 yX4_below]
def wsX7_isClearAt : List Cond := .code yX7_isClearAt cX7_isClearAt 6 (some .boolean) :: ((wsX7_isClearAt_r1 ++ wsX7_isClearAt_r2) ++ wsX40)
def wsX7_isPairClear_r1 : List Cond := [Cond.fieldLink RX7 30 "GobRow$Knots" "count" "I", Cond.fieldLink RX7 34 "GobRow$Knots" "degrees" "[I", Cond.methodLink RX7 42 yX7_isClearAt, Cond.static yX7_isClearAt, Cond.initialized RX7, Cond.code yX7_isClearAt cX7_isClearAt 6 (some .boolean), Cond.methodLink RX7 46 yX4_below, Cond.instanceMethod yX4_below, Cond.selects RX4 yX4_below yX4_below, Cond.initialized RX4, Cond.code yX4_below cX4_below 4 (some .int), Cond.fieldLink RX4 9 "GobRow$Knots" "degrees" "[I", Cond.methodLink RX4 22 yX4_lastAhead, Cond.instanceMethod yX4_lastAhead, Cond.selects RX4 yX4_lastAhead yX4_lastAhead, Cond.code yX4_lastAhead cX4_lastAhead 4 (some .int), Cond.fieldLink RX4 18 "GobRow$Knots" "count" "I", Cond.methodLink RX4 36 Lib.Math.max.name, Cond.static Lib.Math.max.name, Cond.initialized "java/lang/Math", Cond.code Lib.Math.max.name Lib.Math.max.code 2 (some .int), Cond.methodLink RX4 26 yX4_nextInRing, Cond.instanceMethod yX4_nextInRing, Cond.selects RX4 yX4_nextInRing yX4_nextInRing]
def wsX7_isPairClear_r2 : List Cond := [Cond.code yX4_nextInRing cX4_nextInRing 2 (some .int), Cond.static yX9_wayUp, Cond.initialized RX9, Cond.code yX9_wayUp cX9_wayUp 2 (some .int), Cond.methodLink RX7 50 yX4_above, Cond.instanceMethod yX4_above, Cond.selects RX4 yX4_above yX4_above, Cond.code yX4_above cX4_above 4 (some .int), Cond.fieldLink RX4 15 "GobRow$Knots" "places" "[I", Cond.methodLink RX4 29 yX4_below]
def wsX7_isPairClear : List Cond := .code yX7_isPairClear cX7_isPairClear 3 (some .boolean) :: ((wsX7_isPairClear_r1 ++ wsX7_isPairClear_r2) ++ wsX40)
def wsX7_isClear_r1 : List Cond := [Cond.fieldLink RX7 11 "GobRow$Rail" "arms" "[LGobRow$Knots;", Cond.methodLink RX7 26 yX7_isPairClear, Cond.static yX7_isPairClear, Cond.initialized RX7, Cond.code yX7_isPairClear cX7_isPairClear 3 (some .boolean), Cond.fieldLink RX7 30 "GobRow$Knots" "count" "I", Cond.fieldLink RX7 34 "GobRow$Knots" "degrees" "[I", Cond.methodLink RX7 42 yX7_isClearAt, Cond.static yX7_isClearAt, Cond.code yX7_isClearAt cX7_isClearAt 6 (some .boolean), Cond.methodLink RX7 46 yX4_below, Cond.instanceMethod yX4_below, Cond.selects RX4 yX4_below yX4_below, Cond.initialized RX4, Cond.code yX4_below cX4_below 4 (some .int), Cond.fieldLink RX4 9 "GobRow$Knots" "degrees" "[I", Cond.methodLink RX4 22 yX4_lastAhead, Cond.instanceMethod yX4_lastAhead, Cond.selects RX4 yX4_lastAhead yX4_lastAhead, Cond.code yX4_lastAhead cX4_lastAhead 4 (some .int), Cond.fieldLink RX4 18 "GobRow$Knots" "count" "I", Cond.methodLink RX4 36 Lib.Math.max.name, Cond.static Lib.Math.max.name, Cond.initialized "java/lang/Math"]
def wsX7_isClear_r2 : List Cond := [Cond.code Lib.Math.max.name Lib.Math.max.code 2 (some .int), Cond.methodLink RX4 26 yX4_nextInRing, Cond.instanceMethod yX4_nextInRing, Cond.selects RX4 yX4_nextInRing yX4_nextInRing, Cond.code yX4_nextInRing cX4_nextInRing 2 (some .int), Cond.static yX9_wayUp, Cond.initialized RX9, Cond.code yX9_wayUp cX9_wayUp 2 (some .int), Cond.methodLink RX7 50 yX4_above, Cond.instanceMethod yX4_above, Cond.selects RX4 yX4_above yX4_above, Cond.code yX4_above cX4_above 4 (some .int), Cond.fieldLink RX4 15 "GobRow$Knots" "places" "[I", Cond.methodLink RX4 29 yX4_below]
def wsX7_isClear : List Cond := .code yX7_isClear cX7_isClear 3 (some .boolean) :: ((wsX7_isClear_r1 ++ wsX7_isClear_r2) ++ wsX70 ++ wsX40)
def wsX7_distanceAbove_r1 : List Cond := [Cond.methodLink RX7 50 yX4_above, Cond.instanceMethod yX4_above, Cond.selects RX4 yX4_above yX4_above, Cond.initialized RX4, Cond.code yX4_above cX4_above 4 (some .int), Cond.fieldLink RX4 15 "GobRow$Knots" "places" "[I", Cond.fieldLink RX4 9 "GobRow$Knots" "degrees" "[I", Cond.methodLink RX4 22 yX4_lastAhead, Cond.instanceMethod yX4_lastAhead, Cond.selects RX4 yX4_lastAhead yX4_lastAhead, Cond.code yX4_lastAhead cX4_lastAhead 4 (some .int), Cond.fieldLink RX4 18 "GobRow$Knots" "count" "I", Cond.methodLink RX4 36 Lib.Math.max.name, Cond.static Lib.Math.max.name, Cond.initialized "java/lang/Math", Cond.code Lib.Math.max.name Lib.Math.max.code 2 (some .int), Cond.methodLink RX4 26 yX4_nextInRing, Cond.instanceMethod yX4_nextInRing, Cond.selects RX4 yX4_nextInRing yX4_nextInRing, Cond.code yX4_nextInRing cX4_nextInRing 2 (some .int), Cond.methodLink RX4 29 yX4_below, Cond.instanceMethod yX4_below, Cond.selects RX4 yX4_below yX4_below, Cond.code yX4_below cX4_below 4 (some .int)]
def wsX7_distanceAbove_r2 : List Cond := [Cond.static yX9_wayUp, Cond.initialized RX9, Cond.code yX9_wayUp cX9_wayUp 2 (some .int), Cond.methodLink RX7 46 yX4_below]
def wsX7_distanceAbove : List Cond := .code yX7_distanceAbove cX7_distanceAbove 7 (some .long) :: ((wsX7_distanceAbove_r1 ++ wsX7_distanceAbove_r2) ++ wsX40)
def wsX7_distanceBelow : List Cond := .code yX7_distanceBelow cX7_distanceBelow 3 (some .long) :: ([.methodLink RX7 46 yX4_below, .instanceMethod yX4_below, .selects RX4 yX4_below yX4_below, .initialized RX4, .code yX4_below cX4_below 4 (some .int), .fieldLink RX4 9 "GobRow$Knots" "degrees" "[I", .methodLink RX4 22 yX4_lastAhead, .instanceMethod yX4_lastAhead, .selects RX4 yX4_lastAhead yX4_lastAhead, .code yX4_lastAhead cX4_lastAhead 4 (some .int), .fieldLink RX4 18 "GobRow$Knots" "count" "I", .methodLink RX4 36 Lib.Math.max.name, .static Lib.Math.max.name, .initialized "java/lang/Math", .code Lib.Math.max.name Lib.Math.max.code 2 (some .int), .methodLink RX4 26 yX4_nextInRing, .instanceMethod yX4_nextInRing, .selects RX4 yX4_nextInRing yX4_nextInRing, .code yX4_nextInRing cX4_nextInRing 2 (some .int), .static yX9_wayUp, .initialized RX9, .code yX9_wayUp cX9_wayUp 2 (some .int)] ++ wsX40)
def wsX7_nearerDegree_r1 : List Cond := [Cond.methodLink RX7 60 Lib.Math.min.name, Cond.static Lib.Math.min.name, Cond.initialized "java/lang/Math", Cond.code Lib.Math.min.name Lib.Math.min.code 2 (some .int), Cond.methodLink RX7 53 yX7_distanceAbove, Cond.static yX7_distanceAbove, Cond.initialized RX7, Cond.code yX7_distanceAbove cX7_distanceAbove 7 (some .long), Cond.methodLink RX7 50 yX4_above, Cond.instanceMethod yX4_above, Cond.selects RX4 yX4_above yX4_above, Cond.initialized RX4, Cond.code yX4_above cX4_above 4 (some .int), Cond.fieldLink RX4 15 "GobRow$Knots" "places" "[I", Cond.fieldLink RX4 9 "GobRow$Knots" "degrees" "[I", Cond.methodLink RX4 22 yX4_lastAhead, Cond.instanceMethod yX4_lastAhead, Cond.selects RX4 yX4_lastAhead yX4_lastAhead, Cond.code yX4_lastAhead cX4_lastAhead 4 (some .int), Cond.fieldLink RX4 18 "GobRow$Knots" "count" "I", Cond.methodLink RX4 36 Lib.Math.max.name, Cond.static Lib.Math.max.name, Cond.code Lib.Math.max.name Lib.Math.max.code 2 (some .int), Cond.methodLink RX4 26 yX4_nextInRing]
def wsX7_nearerDegree_r2 : List Cond := [Cond.instanceMethod yX4_nextInRing, Cond.selects RX4 yX4_nextInRing yX4_nextInRing, Cond.code yX4_nextInRing cX4_nextInRing 2 (some .int), Cond.methodLink RX4 29 yX4_below, Cond.instanceMethod yX4_below, Cond.selects RX4 yX4_below yX4_below, Cond.code yX4_below cX4_below 4 (some .int), Cond.static yX9_wayUp, Cond.initialized RX9, Cond.code yX9_wayUp cX9_wayUp 2 (some .int), Cond.methodLink RX7 46 yX4_below, Cond.methodLink RX7 57 yX7_distanceBelow, Cond.static yX7_distanceBelow, Cond.code yX7_distanceBelow cX7_distanceBelow 3 (some .long)]
def wsX7_nearerDegree : List Cond := .code yX7_nearerDegree cX7_nearerDegree 8 (some .int) :: ((wsX7_nearerDegree_r1 ++ wsX7_nearerDegree_r2) ++ wsX40)
def wsX7_nearestDegree_r1 : List Cond := [Cond.fieldLink RX7 30 "GobRow$Knots" "count" "I", Cond.fieldLink RX7 34 "GobRow$Knots" "degrees" "[I", Cond.methodLink RX7 38 yX7_nearerDegree, Cond.static yX7_nearerDegree, Cond.initialized RX7, Cond.code yX7_nearerDegree cX7_nearerDegree 8 (some .int), Cond.methodLink RX7 60 Lib.Math.min.name, Cond.static Lib.Math.min.name, Cond.initialized "java/lang/Math", Cond.code Lib.Math.min.name Lib.Math.min.code 2 (some .int), Cond.methodLink RX7 53 yX7_distanceAbove, Cond.static yX7_distanceAbove, Cond.code yX7_distanceAbove cX7_distanceAbove 7 (some .long), Cond.methodLink RX7 50 yX4_above, Cond.instanceMethod yX4_above, Cond.selects RX4 yX4_above yX4_above, Cond.initialized RX4, Cond.code yX4_above cX4_above 4 (some .int), Cond.fieldLink RX4 15 "GobRow$Knots" "places" "[I", Cond.fieldLink RX4 9 "GobRow$Knots" "degrees" "[I", Cond.methodLink RX4 22 yX4_lastAhead, Cond.instanceMethod yX4_lastAhead, Cond.selects RX4 yX4_lastAhead yX4_lastAhead, Cond.code yX4_lastAhead cX4_lastAhead 4 (some .int)]
def wsX7_nearestDegree_r2 : List Cond := [Cond.fieldLink RX4 18 "GobRow$Knots" "count" "I", Cond.methodLink RX4 36 Lib.Math.max.name, Cond.static Lib.Math.max.name, Cond.code Lib.Math.max.name Lib.Math.max.code 2 (some .int), Cond.methodLink RX4 26 yX4_nextInRing, Cond.instanceMethod yX4_nextInRing, Cond.selects RX4 yX4_nextInRing yX4_nextInRing, Cond.code yX4_nextInRing cX4_nextInRing 2 (some .int), Cond.methodLink RX4 29 yX4_below, Cond.instanceMethod yX4_below, Cond.selects RX4 yX4_below yX4_below, Cond.code yX4_below cX4_below 4 (some .int), Cond.static yX9_wayUp, Cond.initialized RX9, Cond.code yX9_wayUp cX9_wayUp 2 (some .int), Cond.methodLink RX7 46 yX4_below, Cond.methodLink RX7 57 yX7_distanceBelow, Cond.static yX7_distanceBelow, Cond.code yX7_distanceBelow cX7_distanceBelow 3 (some .long)]
def wsX7_nearestDegree : List Cond := .code yX7_nearestDegree cX7_nearestDegree 5 (some .int) :: ((wsX7_nearestDegree_r1 ++ wsX7_nearestDegree_r2) ++ wsX40)
def wsX8_become : List Cond := .code yX8_become cX8_become 5 none :: ([.fieldLink RX8 9 "GobRow$Rule" "kind" "I", .fieldLink RX8 15 "GobRow$Rule" "a" "I", .fieldLink RX8 18 "GobRow$Rule" "b" "I", .fieldLink RX8 21 "GobRow$Rule" "n" "I"] ++ wsX80)
def wsX9_init_r1 : List Cond := [Cond.methodLink RX9 1 objectInit, Cond.instanceMethod objectInit, Cond.code objectInit ⟨#[0xb1]⟩ 1 none, Cond.classLink RX9 7 RX3, Cond.instantiable RX3 5, Cond.initialized RX3, Cond.fieldLink RX9 10 "GobRow" "drums" "LGobRow$Drums;", Cond.classLink RX9 16 RX7, Cond.instantiable RX7 2, Cond.initialized RX7, Cond.fieldLink RX9 19 "GobRow" "rail" "LGobRow$Rail;", Cond.classLink RX9 23 RX6, Cond.instantiable RX6 3, Cond.initialized RX6, Cond.fieldLink RX9 26 "GobRow" "order" "LGobRow$Order;", Cond.classLink RX9 30 RX5, Cond.instantiable RX5 6, Cond.initialized RX5, Cond.fieldLink RX9 33 "GobRow" "moulds" "LGobRow$Moulds;", Cond.classLink RX9 37 RX0, Cond.instantiable RX0 3, Cond.initialized RX0, Cond.fieldLink RX9 40 "GobRow" "belt" "LGobRow$Belt;", Cond.arrayClass .int]
def wsX9_init_r2 : List Cond := [Cond.fieldLink RX9 44 "GobRow" "jobOfSection" "[I", Cond.fieldLink RX9 48 "GobRow" "aimOfJob" "[I", Cond.fieldLink RX9 51 "GobRow" "colourOfJob" "[I", Cond.fieldLink RX9 54 "GobRow" "judged" "[I", Cond.fieldLink RX9 57 "GobRow" "glassColour" "I", Cond.fieldLink RX9 61 "GobRow" "mixed" "I", Cond.fieldLink RX9 64 "GobRow" "tube" "I", Cond.fieldLink RX9 67 "GobRow" "drift" "I", Cond.fieldLink RX9 70 "GobRow" "lasts" "I", Cond.fieldLink RX9 73 "GobRow" "cuts" "I", Cond.methodLink RX9 9 yX3_init, Cond.instanceMethod yX3_init, Cond.code yX3_init cX3_init 2 none, Cond.methodLink RX3 3 objectInit, Cond.classLink RX3 9 RX2, Cond.fieldLink RX3 11 "GobRow$Drums" "rows" "[LGobRow$Drum;", Cond.classLink RX3 17 RX8, Cond.fieldLink RX3 19 "GobRow$Drums" "laws" "[LGobRow$Rule;", Cond.instantiable RX2 2, Cond.initialized RX2, Cond.fieldLink RX3 24 "GobRow$Drums" "trial" "LGobRow$Drum;", Cond.fieldLink RX3 28 "GobRow$Drums" "lawCount" "I", Cond.fieldLink RX3 32 "GobRow$Drums" "turnsAMinute" "I", Cond.instantiable RX8 4]
def wsX9_init_r3 : List Cond := [Cond.initialized RX8, Cond.methodLink RX3 23 yX2_init, Cond.instanceMethod yX2_init, Cond.code yX2_init cX2_init 2 none, Cond.methodLink RX2 3 objectInit, Cond.fieldLink RX2 9 "GobRow$Drum" "on" "[I", Cond.fieldLink RX2 15 "GobRow$Drum" "off" "[I", Cond.instanceMethod yX8_init, Cond.code yX8_init cX8_init 1 none, Cond.methodLink RX8 3 objectInit, Cond.fieldLink RX8 9 "GobRow$Rule" "kind" "I", Cond.fieldLink RX8 15 "GobRow$Rule" "a" "I", Cond.fieldLink RX8 18 "GobRow$Rule" "b" "I", Cond.fieldLink RX8 21 "GobRow$Rule" "n" "I", Cond.methodLink RX9 18 yX7_init, Cond.instanceMethod yX7_init, Cond.code yX7_init cX7_init 2 none, Cond.methodLink RX7 3 objectInit, Cond.classLink RX7 9 RX4, Cond.fieldLink RX7 11 "GobRow$Rail" "arms" "[LGobRow$Knots;", Cond.instantiable RX4 3, Cond.initialized RX4, Cond.fieldLink RX7 18 "GobRow$Rail" "told" "LGobRow$Knots;", Cond.instanceMethod yX4_init]
def wsX9_init_r4 : List Cond := [Cond.code yX4_init cX4_init 1 none, Cond.methodLink RX4 3 objectInit, Cond.fieldLink RX4 9 "GobRow$Knots" "degrees" "[I", Cond.fieldLink RX4 15 "GobRow$Knots" "places" "[I", Cond.fieldLink RX4 18 "GobRow$Knots" "count" "I", Cond.methodLink RX7 22 yX4_add, Cond.instanceMethod yX4_add, Cond.selects RX4 yX4_add yX4_add, Cond.code yX4_add cX4_add 3 none, Cond.methodLink RX9 25 yX6_init, Cond.instanceMethod yX6_init, Cond.code yX6_init cX6_init 2 none, Cond.methodLink RX6 3 objectInit, Cond.fieldLink RX6 9 "GobRow$Order" "sections" "[I", Cond.fieldLink RX6 15 "GobRow$Order" "turnAt" "I", Cond.fieldLink RX6 19 "GobRow$Order" "count" "I", Cond.methodLink RX9 32 yX5_init, Cond.instanceMethod yX5_init, Cond.code yX5_init cX5_init 2 none, Cond.methodLink RX5 3 objectInit, Cond.fieldLink RX5 9 "GobRow$Moulds" "uses" "[I", Cond.fieldLink RX5 15 "GobRow$Moulds" "dust" "[I", Cond.arrayClass .boolean, Cond.fieldLink RX5 18 "GobRow$Moulds" "pulled" "[Z"]
def wsX9_init_r5 : List Cond := [Cond.fieldLink RX5 22 "GobRow$Moulds" "good" "[I", Cond.fieldLink RX5 25 "GobRow$Moulds" "bad" "[I", Cond.fieldLink RX5 28 "GobRow$Moulds" "inSection" "[I", Cond.methodLink RX9 39 yX0_init, Cond.instanceMethod yX0_init, Cond.code yX0_init cX0_init 2 none, Cond.methodLink RX0 3 objectInit, Cond.classLink RX0 9 RX1, Cond.fieldLink RX0 11 "GobRow$Belt" "ring" "[LGobRow$Bottle;", Cond.fieldLink RX0 17 "GobRow$Belt" "eldest" "I", Cond.fieldLink RX0 21 "GobRow$Belt" "count" "I", Cond.instantiable RX1 7, Cond.initialized RX1, Cond.instanceMethod yX1_init, Cond.code yX1_init cX1_init 1 none, Cond.methodLink RX1 3 objectInit, Cond.fieldLink RX1 9 "GobRow$Bottle" "number" "I", Cond.fieldLink RX1 15 "GobRow$Bottle" "section" "I", Cond.fieldLink RX1 18 "GobRow$Bottle" "mould" "I", Cond.fieldLink RX1 21 "GobRow$Bottle" "job" "I", Cond.fieldLink RX1 24 "GobRow$Bottle" "aim" "I", Cond.fieldLink RX1 27 "GobRow$Bottle" "weight" "I", Cond.fieldLink RX1 30 "GobRow$Bottle" "fault" "I"]
def wsX9_init : List Cond := .code yX9_init cX9_init 2 none :: ((wsX9_init_r1 ++ (wsX9_init_r2 ++ (wsX9_init_r3 ++ (wsX9_init_r4 ++ wsX9_init_r5)))) ++ wsX30 ++ wsX90 ++ wsX70 ++ wsX60 ++ wsX50 ++ wsX00 ++ wsX20 ++ wsX80 ++ wsX40 ++ wsX10)
def wsX9_isBetween : List Cond := .code yX9_isBetween cX9_isBetween 3 (some .boolean) :: ([])
def wsX9_isSection : List Cond := .code yX9_isSection cX9_isSection 1 (some .boolean) :: ([.methodLink RX9 98 yX9_isBetween, .static yX9_isBetween, .initialized RX9, .code yX9_isBetween cX9_isBetween 3 (some .boolean)])
def wsX9_isAct : List Cond := .code yX9_isAct cX9_isAct 1 (some .boolean) :: ([.methodLink RX9 98 yX9_isBetween, .static yX9_isBetween, .initialized RX9, .code yX9_isBetween cX9_isBetween 3 (some .boolean)])
def wsX9_isDegree : List Cond := .code yX9_isDegree cX9_isDegree 1 (some .boolean) :: ([.methodLink RX9 98 yX9_isBetween, .static yX9_isBetween, .initialized RX9, .code yX9_isBetween cX9_isBetween 3 (some .boolean)])
def wsX9_isSetting : List Cond := .code yX9_isSetting cX9_isSetting 4 (some .boolean) :: ([.methodLink RX9 94 yX9_isSection, .static yX9_isSection, .initialized RX9, .code yX9_isSection cX9_isSection 1 (some .boolean), .methodLink RX9 98 yX9_isBetween, .static yX9_isBetween, .code yX9_isBetween cX9_isBetween 3 (some .boolean), .methodLink RX9 140 yX9_isAct, .static yX9_isAct, .code yX9_isAct cX9_isAct 1 (some .boolean), .methodLink RX9 152 yX9_isDegree, .static yX9_isDegree, .code yX9_isDegree cX9_isDegree 1 (some .boolean)])
def wsX9_set_r1 : List Cond := [Cond.fieldLink RX9 10 "GobRow" "drums" "LGobRow$Drums;", Cond.fieldLink RX9 84 "GobRow$Drums" "rows" "[LGobRow$Drum;", Cond.methodLink RX9 76 yX9_isSetting, Cond.static yX9_isSetting, Cond.initialized RX9, Cond.code yX9_isSetting cX9_isSetting 4 (some .boolean), Cond.methodLink RX9 94 yX9_isSection, Cond.static yX9_isSection, Cond.code yX9_isSection cX9_isSection 1 (some .boolean), Cond.methodLink RX9 98 yX9_isBetween, Cond.static yX9_isBetween, Cond.code yX9_isBetween cX9_isBetween 3 (some .boolean), Cond.methodLink RX9 140 yX9_isAct, Cond.static yX9_isAct, Cond.code yX9_isAct cX9_isAct 1 (some .boolean), Cond.methodLink RX9 152 yX9_isDegree, Cond.static yX9_isDegree, Cond.code yX9_isDegree cX9_isDegree 1 (some .boolean), Cond.methodLink RX9 80 yX3_brokenIf, Cond.instanceMethod yX3_brokenIf, Cond.selects RX3 yX3_brokenIf yX3_brokenIf, Cond.initialized RX3, Cond.code yX3_brokenIf cX3_brokenIf 6 (some .int), Cond.fieldLink RX3 24 "GobRow$Drums" "trial" "LGobRow$Drum;"]
def wsX9_set_r2 : List Cond := [Cond.fieldLink RX3 11 "GobRow$Drums" "rows" "[LGobRow$Drum;", Cond.fieldLink RX3 28 "GobRow$Drums" "lawCount" "I", Cond.fieldLink RX3 19 "GobRow$Drums" "laws" "[LGobRow$Rule;", Cond.fieldLink RX3 32 "GobRow$Drums" "turnsAMinute" "I", Cond.methodLink RX3 36 yX2_become, Cond.instanceMethod yX2_become, Cond.selects RX2 yX2_become yX2_become, Cond.initialized RX2, Cond.code yX2_become cX2_become 3 none, Cond.fieldLink RX2 9 "GobRow$Drum" "on" "[I", Cond.fieldLink RX2 15 "GobRow$Drum" "off" "[I", Cond.methodLink RX3 40 yX2_change, Cond.instanceMethod yX2_change, Cond.selects RX2 yX2_change yX2_change, Cond.code yX2_change cX2_change 4 none, Cond.methodLink RX3 44 yX8_isBroken, Cond.instanceMethod yX8_isBroken, Cond.selects RX8 yX8_isBroken yX8_isBroken, Cond.initialized RX8, Cond.code yX8_isBroken cX8_isBroken 3 (some .boolean), Cond.fieldLink RX8 9 "GobRow$Rule" "kind" "I", Cond.fieldLink RX8 24 "GobRow$Drum" "off" "[I", Cond.fieldLink RX8 15 "GobRow$Rule" "a" "I", Cond.fieldLink RX8 30 "GobRow$Drum" "on" "[I"]
def wsX9_set_r3 : List Cond := [Cond.fieldLink RX8 18 "GobRow$Rule" "b" "I", Cond.fieldLink RX8 21 "GobRow$Rule" "n" "I", Cond.static yX9_wayUp, Cond.code yX9_wayUp cX9_wayUp 2 (some .int), Cond.methodLink RX8 37 yX2_isDone, Cond.instanceMethod yX2_isDone, Cond.selects RX2 yX2_isDone yX2_isDone, Cond.code yX2_isDone cX2_isDone 3 (some .boolean), Cond.methodLink RX2 27 yX2_length, Cond.instanceMethod yX2_length, Cond.selects RX2 yX2_length yX2_length, Cond.code yX2_length cX2_length 2 (some .int), Cond.methodLink RX8 41 yX2_length, Cond.methodLink RX8 45 yX2_isInside, Cond.instanceMethod yX2_isInside, Cond.selects RX2 yX2_isInside yX2_isInside, Cond.code yX2_isInside cX2_isInside 3 (some .boolean), Cond.methodLink RX9 88 yX2_change]
def wsX9_set : List Cond := .code yX9_set cX9_set 6 (some .int) :: ((wsX9_set_r1 ++ (wsX9_set_r2 ++ wsX9_set_r3)) ++ wsX90 ++ wsX30 ++ wsX20 ++ wsX80)
def wsX9_turn : List Cond := .code yX9_turn cX9_turn 3 (some .int) :: ([.fieldLink RX9 10 "GobRow" "drums" "LGobRow$Drums;", .fieldLink RX9 84 "GobRow$Drums" "rows" "[LGobRow$Drum;", .methodLink RX9 94 yX9_isSection, .static yX9_isSection, .initialized RX9, .code yX9_isSection cX9_isSection 1 (some .boolean), .methodLink RX9 98 yX9_isBetween, .static yX9_isBetween, .code yX9_isBetween cX9_isBetween 3 (some .boolean), .methodLink RX9 102 yX2_shift, .instanceMethod yX2_shift, .selects RX2 yX2_shift yX2_shift, .initialized RX2, .code yX2_shift cX2_shift 3 none, .fieldLink RX2 9 "GobRow$Drum" "on" "[I", .fieldLink RX2 15 "GobRow$Drum" "off" "[I", .methodLink RX2 18 yJ9_floorMod_7cf53, .static yJ9_floorMod_7cf53, .initialized RJ9, .code yJ9_floorMod_7cf53 cJ9_floorMod_7cf53 3 (some .int)] ++ wsX90 ++ wsX30 ++ wsX20)
def wsX9_copy : List Cond := .code yX9_copy cX9_copy 3 (some .int) :: ([.fieldLink RX9 10 "GobRow" "drums" "LGobRow$Drums;", .fieldLink RX9 84 "GobRow$Drums" "rows" "[LGobRow$Drum;", .methodLink RX9 94 yX9_isSection, .static yX9_isSection, .initialized RX9, .code yX9_isSection cX9_isSection 1 (some .boolean), .methodLink RX9 98 yX9_isBetween, .static yX9_isBetween, .code yX9_isBetween cX9_isBetween 3 (some .boolean), .methodLink RX9 106 yX2_become, .instanceMethod yX2_become, .selects RX2 yX2_become yX2_become, .initialized RX2, .code yX2_become cX2_become 3 none, .fieldLink RX2 9 "GobRow$Drum" "on" "[I", .fieldLink RX2 15 "GobRow$Drum" "off" "[I"] ++ wsX90 ++ wsX30 ++ wsX20)
def wsX9_isLaw : List Cond := .code yX9_isLaw cX9_isLaw 4 (some .boolean) :: ([.constant RX9 319 (60000), .methodLink RX9 98 yX9_isBetween, .static yX9_isBetween, .initialized RX9, .code yX9_isBetween cX9_isBetween 3 (some .boolean), .methodLink RX9 140 yX9_isAct, .static yX9_isAct, .code yX9_isAct cX9_isAct 1 (some .boolean)])
def wsX9_law_r1 : List Cond := [Cond.fieldLink RX9 10 "GobRow" "drums" "LGobRow$Drums;", Cond.fieldLink RX9 113 "GobRow$Drums" "lawCount" "I", Cond.fieldLink RX9 116 "GobRow$Drums" "laws" "[LGobRow$Rule;", Cond.fieldLink RX9 125 "GobRow$Drums" "turnsAMinute" "I", Cond.methodLink RX9 110 yX9_isLaw, Cond.static yX9_isLaw, Cond.initialized RX9, Cond.code yX9_isLaw cX9_isLaw 4 (some .boolean), Cond.constant RX9 319 (60000), Cond.methodLink RX9 98 yX9_isBetween, Cond.static yX9_isBetween, Cond.code yX9_isBetween cX9_isBetween 3 (some .boolean), Cond.methodLink RX9 140 yX9_isAct, Cond.static yX9_isAct, Cond.code yX9_isAct cX9_isAct 1 (some .boolean), Cond.methodLink RX9 120 yX8_become, Cond.instanceMethod yX8_become, Cond.selects RX8 yX8_become yX8_become, Cond.initialized RX8, Cond.code yX8_become cX8_become 5 none, Cond.fieldLink RX8 9 "GobRow$Rule" "kind" "I", Cond.fieldLink RX8 15 "GobRow$Rule" "a" "I", Cond.fieldLink RX8 18 "GobRow$Rule" "b" "I", Cond.fieldLink RX8 21 "GobRow$Rule" "n" "I"]
def wsX9_law_r2 : List Cond := [Cond.methodLink RX9 128 yX3_anyBreaks, Cond.instanceMethod yX3_anyBreaks, Cond.selects RX3 yX3_anyBreaks yX3_anyBreaks, Cond.initialized RX3, Cond.code yX3_anyBreaks cX3_anyBreaks 4 (some .boolean), Cond.fieldLink RX3 19 "GobRow$Drums" "laws" "[LGobRow$Rule;", Cond.fieldLink RX3 11 "GobRow$Drums" "rows" "[LGobRow$Drum;", Cond.methodLink RX3 44 yX8_isBroken, Cond.instanceMethod yX8_isBroken, Cond.selects RX8 yX8_isBroken yX8_isBroken, Cond.code yX8_isBroken cX8_isBroken 3 (some .boolean), Cond.fieldLink RX8 24 "GobRow$Drum" "off" "[I", Cond.fieldLink RX8 30 "GobRow$Drum" "on" "[I", Cond.static yX9_wayUp, Cond.code yX9_wayUp cX9_wayUp 2 (some .int), Cond.methodLink RX8 37 yX2_isDone, Cond.instanceMethod yX2_isDone, Cond.selects RX2 yX2_isDone yX2_isDone, Cond.initialized RX2, Cond.code yX2_isDone cX2_isDone 3 (some .boolean), Cond.fieldLink RX2 9 "GobRow$Drum" "on" "[I", Cond.methodLink RX2 27 yX2_length, Cond.instanceMethod yX2_length, Cond.selects RX2 yX2_length yX2_length]
def wsX9_law_r3 : List Cond := [Cond.code yX2_length cX2_length 2 (some .int), Cond.fieldLink RX2 15 "GobRow$Drum" "off" "[I", Cond.methodLink RX8 41 yX2_length, Cond.methodLink RX8 45 yX2_isInside, Cond.instanceMethod yX2_isInside, Cond.selects RX2 yX2_isInside yX2_isInside, Cond.code yX2_isInside cX2_isInside 3 (some .boolean)]
def wsX9_law : List Cond := .code yX9_law cX9_law 6 (some .int) :: ((wsX9_law_r1 ++ (wsX9_law_r2 ++ wsX9_law_r3)) ++ wsX90 ++ wsX30 ++ wsX80 ++ wsX20)
def wsX9_repeal : List Cond := .code yX9_repeal cX9_repeal 1 (some .int) :: ([.fieldLink RX9 10 "GobRow" "drums" "LGobRow$Drums;", .fieldLink RX9 113 "GobRow$Drums" "lawCount" "I"] ++ wsX90 ++ wsX30)
def wsX9_pace_r1 : List Cond := [Cond.fieldLink RX9 10 "GobRow" "drums" "LGobRow$Drums;", Cond.fieldLink RX9 125 "GobRow$Drums" "turnsAMinute" "I", Cond.methodLink RX9 98 yX9_isBetween, Cond.static yX9_isBetween, Cond.initialized RX9, Cond.code yX9_isBetween cX9_isBetween 3 (some .boolean), Cond.methodLink RX9 132 yX3_brokenAt, Cond.instanceMethod yX3_brokenAt, Cond.selects RX3 yX3_brokenAt yX3_brokenAt, Cond.initialized RX3, Cond.code yX3_brokenAt cX3_brokenAt 3 (some .int), Cond.fieldLink RX3 28 "GobRow$Drums" "lawCount" "I", Cond.methodLink RX3 48 yX3_anyBreaks, Cond.instanceMethod yX3_anyBreaks, Cond.selects RX3 yX3_anyBreaks yX3_anyBreaks, Cond.code yX3_anyBreaks cX3_anyBreaks 4 (some .boolean), Cond.fieldLink RX3 19 "GobRow$Drums" "laws" "[LGobRow$Rule;", Cond.fieldLink RX3 11 "GobRow$Drums" "rows" "[LGobRow$Drum;", Cond.methodLink RX3 44 yX8_isBroken, Cond.instanceMethod yX8_isBroken, Cond.selects RX8 yX8_isBroken yX8_isBroken, Cond.initialized RX8, Cond.code yX8_isBroken cX8_isBroken 3 (some .boolean), Cond.fieldLink RX8 9 "GobRow$Rule" "kind" "I"]
def wsX9_pace_r2 : List Cond := [Cond.fieldLink RX8 24 "GobRow$Drum" "off" "[I", Cond.fieldLink RX8 15 "GobRow$Rule" "a" "I", Cond.fieldLink RX8 30 "GobRow$Drum" "on" "[I", Cond.fieldLink RX8 18 "GobRow$Rule" "b" "I", Cond.fieldLink RX8 21 "GobRow$Rule" "n" "I", Cond.static yX9_wayUp, Cond.code yX9_wayUp cX9_wayUp 2 (some .int), Cond.methodLink RX8 37 yX2_isDone, Cond.instanceMethod yX2_isDone, Cond.selects RX2 yX2_isDone yX2_isDone, Cond.initialized RX2, Cond.code yX2_isDone cX2_isDone 3 (some .boolean), Cond.fieldLink RX2 9 "GobRow$Drum" "on" "[I", Cond.methodLink RX2 27 yX2_length, Cond.instanceMethod yX2_length, Cond.selects RX2 yX2_length yX2_length, Cond.code yX2_length cX2_length 2 (some .int), Cond.fieldLink RX2 15 "GobRow$Drum" "off" "[I", Cond.methodLink RX8 41 yX2_length, Cond.methodLink RX8 45 yX2_isInside, Cond.instanceMethod yX2_isInside, Cond.selects RX2 yX2_isInside yX2_isInside, Cond.code yX2_isInside cX2_isInside 3 (some .boolean)]
def wsX9_pace : List Cond := .code yX9_pace cX9_pace 4 (some .int) :: ((wsX9_pace_r1 ++ wsX9_pace_r2) ++ wsX90 ++ wsX30 ++ wsX80 ++ wsX20)
def wsX9_fastest_r1 : List Cond := [Cond.fieldLink RX9 10 "GobRow" "drums" "LGobRow$Drums;", Cond.methodLink RX9 136 yX3_greatestPace, Cond.instanceMethod yX3_greatestPace, Cond.selects RX3 yX3_greatestPace yX3_greatestPace, Cond.initialized RX3, Cond.code yX3_greatestPace cX3_greatestPace 4 (some .int), Cond.fieldLink RX3 28 "GobRow$Drums" "lawCount" "I", Cond.fieldLink RX3 19 "GobRow$Drums" "laws" "[LGobRow$Rule;", Cond.fieldLink RX3 11 "GobRow$Drums" "rows" "[LGobRow$Drum;", Cond.methodLink RX3 56 Lib.Math.min.name, Cond.static Lib.Math.min.name, Cond.initialized "java/lang/Math", Cond.code Lib.Math.min.name Lib.Math.min.code 2 (some .int), Cond.methodLink RX3 52 yX8_greatestPace, Cond.instanceMethod yX8_greatestPace, Cond.selects RX8 yX8_greatestPace yX8_greatestPace, Cond.initialized RX8, Cond.code yX8_greatestPace cX8_greatestPace 2 (some .int), Cond.fieldLink RX8 9 "GobRow$Rule" "kind" "I", Cond.fieldLink RX8 21 "GobRow$Rule" "n" "I", Cond.fieldLink RX8 15 "GobRow$Rule" "a" "I", Cond.methodLink RX8 41 yX2_length, Cond.instanceMethod yX2_length, Cond.selects RX2 yX2_length yX2_length]
def wsX9_fastest_r2 : List Cond := [Cond.initialized RX2, Cond.code yX2_length cX2_length 2 (some .int), Cond.fieldLink RX2 9 "GobRow$Drum" "on" "[I", Cond.fieldLink RX2 15 "GobRow$Drum" "off" "[I", Cond.static yX9_wayUp, Cond.initialized RX9, Cond.code yX9_wayUp cX9_wayUp 2 (some .int)]
def wsX9_fastest : List Cond := .code yX9_fastest cX9_fastest 1 (some .int) :: ((wsX9_fastest_r1 ++ wsX9_fastest_r2) ++ wsX90 ++ wsX30 ++ wsX80 ++ wsX20)
def wsX9_asNumber : List Cond := .code yX9_asNumber cX9_asNumber 1 (some .int) :: ([])
def wsX9_act_r1 : List Cond := [Cond.fieldLink RX9 10 "GobRow" "drums" "LGobRow$Drums;", Cond.fieldLink RX9 84 "GobRow$Drums" "rows" "[LGobRow$Drum;", Cond.fieldLink RX9 143 "GobRow$Drum" "on" "[I", Cond.fieldLink RX9 146 "GobRow$Drum" "off" "[I", Cond.methodLink RX9 94 yX9_isSection, Cond.static yX9_isSection, Cond.initialized RX9, Cond.code yX9_isSection cX9_isSection 1 (some .boolean), Cond.methodLink RX9 98 yX9_isBetween, Cond.static yX9_isBetween, Cond.code yX9_isBetween cX9_isBetween 3 (some .boolean), Cond.methodLink RX9 140 yX9_isAct, Cond.static yX9_isAct, Cond.code yX9_isAct cX9_isAct 1 (some .boolean), Cond.methodLink RX9 149 yX2_length, Cond.instanceMethod yX2_length, Cond.selects RX2 yX2_length yX2_length, Cond.initialized RX2, Cond.code yX2_length cX2_length 2 (some .int), Cond.fieldLink RX2 9 "GobRow$Drum" "on" "[I", Cond.fieldLink RX2 15 "GobRow$Drum" "off" "[I", Cond.static yX9_wayUp, Cond.code yX9_wayUp cX9_wayUp 2 (some .int), Cond.methodLink RX9 152 yX9_isDegree]
def wsX9_act_r2 : List Cond := [Cond.static yX9_isDegree, Cond.code yX9_isDegree cX9_isDegree 1 (some .boolean), Cond.methodLink RX9 155 yX2_isDone, Cond.instanceMethod yX2_isDone, Cond.selects RX2 yX2_isDone yX2_isDone, Cond.code yX2_isDone cX2_isDone 3 (some .boolean), Cond.methodLink RX2 27 yX2_length, Cond.methodLink RX9 158 yX9_asNumber, Cond.static yX9_asNumber, Cond.code yX9_asNumber cX9_asNumber 1 (some .int)]
def wsX9_act : List Cond := .code yX9_act cX9_act 6 (some .int) :: ((wsX9_act_r1 ++ wsX9_act_r2) ++ wsX90 ++ wsX30 ++ wsX20)
def wsX9_would_r1 : List Cond := [Cond.fieldLink RX9 10 "GobRow" "drums" "LGobRow$Drums;", Cond.methodLink RX9 76 yX9_isSetting, Cond.static yX9_isSetting, Cond.initialized RX9, Cond.code yX9_isSetting cX9_isSetting 4 (some .boolean), Cond.methodLink RX9 94 yX9_isSection, Cond.static yX9_isSection, Cond.code yX9_isSection cX9_isSection 1 (some .boolean), Cond.methodLink RX9 98 yX9_isBetween, Cond.static yX9_isBetween, Cond.code yX9_isBetween cX9_isBetween 3 (some .boolean), Cond.methodLink RX9 140 yX9_isAct, Cond.static yX9_isAct, Cond.code yX9_isAct cX9_isAct 1 (some .boolean), Cond.methodLink RX9 152 yX9_isDegree, Cond.static yX9_isDegree, Cond.code yX9_isDegree cX9_isDegree 1 (some .boolean), Cond.methodLink RX9 80 yX3_brokenIf, Cond.instanceMethod yX3_brokenIf, Cond.selects RX3 yX3_brokenIf yX3_brokenIf, Cond.initialized RX3, Cond.code yX3_brokenIf cX3_brokenIf 6 (some .int), Cond.fieldLink RX3 24 "GobRow$Drums" "trial" "LGobRow$Drum;", Cond.fieldLink RX3 11 "GobRow$Drums" "rows" "[LGobRow$Drum;"]
def wsX9_would_r2 : List Cond := [Cond.fieldLink RX3 28 "GobRow$Drums" "lawCount" "I", Cond.fieldLink RX3 19 "GobRow$Drums" "laws" "[LGobRow$Rule;", Cond.fieldLink RX3 32 "GobRow$Drums" "turnsAMinute" "I", Cond.methodLink RX3 36 yX2_become, Cond.instanceMethod yX2_become, Cond.selects RX2 yX2_become yX2_become, Cond.initialized RX2, Cond.code yX2_become cX2_become 3 none, Cond.fieldLink RX2 9 "GobRow$Drum" "on" "[I", Cond.fieldLink RX2 15 "GobRow$Drum" "off" "[I", Cond.methodLink RX3 40 yX2_change, Cond.instanceMethod yX2_change, Cond.selects RX2 yX2_change yX2_change, Cond.code yX2_change cX2_change 4 none, Cond.methodLink RX3 44 yX8_isBroken, Cond.instanceMethod yX8_isBroken, Cond.selects RX8 yX8_isBroken yX8_isBroken, Cond.initialized RX8, Cond.code yX8_isBroken cX8_isBroken 3 (some .boolean), Cond.fieldLink RX8 9 "GobRow$Rule" "kind" "I", Cond.fieldLink RX8 24 "GobRow$Drum" "off" "[I", Cond.fieldLink RX8 15 "GobRow$Rule" "a" "I", Cond.fieldLink RX8 30 "GobRow$Drum" "on" "[I", Cond.fieldLink RX8 18 "GobRow$Rule" "b" "I"]
def wsX9_would_r3 : List Cond := [Cond.fieldLink RX8 21 "GobRow$Rule" "n" "I", Cond.static yX9_wayUp, Cond.code yX9_wayUp cX9_wayUp 2 (some .int), Cond.methodLink RX8 37 yX2_isDone, Cond.instanceMethod yX2_isDone, Cond.selects RX2 yX2_isDone yX2_isDone, Cond.code yX2_isDone cX2_isDone 3 (some .boolean), Cond.methodLink RX2 27 yX2_length, Cond.instanceMethod yX2_length, Cond.selects RX2 yX2_length yX2_length, Cond.code yX2_length cX2_length 2 (some .int), Cond.methodLink RX8 41 yX2_length, Cond.methodLink RX8 45 yX2_isInside, Cond.instanceMethod yX2_isInside, Cond.selects RX2 yX2_isInside yX2_isInside, Cond.code yX2_isInside cX2_isInside 3 (some .boolean)]
def wsX9_would : List Cond := .code yX9_would cX9_would 6 (some .int) :: ((wsX9_would_r1 ++ (wsX9_would_r2 ++ wsX9_would_r3)) ++ wsX90 ++ wsX30 ++ wsX20 ++ wsX80)
def wsX9_isArm : List Cond := .code yX9_isArm cX9_isArm 1 (some .boolean) :: ([.methodLink RX9 98 yX9_isBetween, .static yX9_isBetween, .initialized RX9, .code yX9_isBetween cX9_isBetween 3 (some .boolean)])
def wsX9_arm_r1 : List Cond := [Cond.fieldLink RX9 19 "GobRow" "rail" "LGobRow$Rail;", Cond.fieldLink RX9 165 "GobRow$Rail" "told" "LGobRow$Knots;", Cond.fieldLink RX9 169 "GobRow$Knots" "count" "I", Cond.methodLink RX9 162 yX9_isArm, Cond.static yX9_isArm, Cond.initialized RX9, Cond.code yX9_isArm cX9_isArm 1 (some .boolean), Cond.methodLink RX9 98 yX9_isBetween, Cond.static yX9_isBetween, Cond.code yX9_isBetween cX9_isBetween 3 (some .boolean), Cond.methodLink RX9 174 yX7_swapWithTold, Cond.instanceMethod yX7_swapWithTold, Cond.selects RX7 yX7_swapWithTold yX7_swapWithTold, Cond.initialized RX7, Cond.code yX7_swapWithTold cX7_swapWithTold 3 none, Cond.fieldLink RX7 11 "GobRow$Rail" "arms" "[LGobRow$Knots;", Cond.fieldLink RX7 18 "GobRow$Rail" "told" "LGobRow$Knots;", Cond.methodLink RX9 177 yX7_isClear, Cond.instanceMethod yX7_isClear, Cond.selects RX7 yX7_isClear yX7_isClear, Cond.code yX7_isClear cX7_isClear 3 (some .boolean), Cond.methodLink RX7 26 yX7_isPairClear, Cond.static yX7_isPairClear, Cond.code yX7_isPairClear cX7_isPairClear 3 (some .boolean)]
def wsX9_arm_r2 : List Cond := [Cond.fieldLink RX7 30 "GobRow$Knots" "count" "I", Cond.fieldLink RX7 34 "GobRow$Knots" "degrees" "[I", Cond.methodLink RX7 42 yX7_isClearAt, Cond.static yX7_isClearAt, Cond.code yX7_isClearAt cX7_isClearAt 6 (some .boolean), Cond.methodLink RX7 46 yX4_below, Cond.instanceMethod yX4_below, Cond.selects RX4 yX4_below yX4_below, Cond.initialized RX4, Cond.code yX4_below cX4_below 4 (some .int), Cond.fieldLink RX4 9 "GobRow$Knots" "degrees" "[I", Cond.methodLink RX4 22 yX4_lastAhead, Cond.instanceMethod yX4_lastAhead, Cond.selects RX4 yX4_lastAhead yX4_lastAhead, Cond.code yX4_lastAhead cX4_lastAhead 4 (some .int), Cond.fieldLink RX4 18 "GobRow$Knots" "count" "I", Cond.methodLink RX4 36 Lib.Math.max.name, Cond.static Lib.Math.max.name, Cond.initialized "java/lang/Math", Cond.code Lib.Math.max.name Lib.Math.max.code 2 (some .int), Cond.methodLink RX4 26 yX4_nextInRing, Cond.instanceMethod yX4_nextInRing, Cond.selects RX4 yX4_nextInRing yX4_nextInRing, Cond.code yX4_nextInRing cX4_nextInRing 2 (some .int)]
def wsX9_arm_r3 : List Cond := [Cond.static yX9_wayUp, Cond.code yX9_wayUp cX9_wayUp 2 (some .int), Cond.methodLink RX7 50 yX4_above, Cond.instanceMethod yX4_above, Cond.selects RX4 yX4_above yX4_above, Cond.code yX4_above cX4_above 4 (some .int), Cond.fieldLink RX4 15 "GobRow$Knots" "places" "[I", Cond.methodLink RX4 29 yX4_below]
def wsX9_arm : List Cond := .code yX9_arm cX9_arm 3 (some .int) :: ((wsX9_arm_r1 ++ (wsX9_arm_r2 ++ wsX9_arm_r3)) ++ wsX90 ++ wsX70 ++ wsX40)
def wsX9_knot : List Cond := .code yX9_knot cX9_knot 3 (some .int) :: ([.fieldLink RX9 19 "GobRow" "rail" "LGobRow$Rail;", .fieldLink RX9 165 "GobRow$Rail" "told" "LGobRow$Knots;", .fieldLink RX9 169 "GobRow$Knots" "count" "I", .methodLink RX9 152 yX9_isDegree, .static yX9_isDegree, .initialized RX9, .code yX9_isDegree cX9_isDegree 1 (some .boolean), .methodLink RX9 98 yX9_isBetween, .static yX9_isBetween, .code yX9_isBetween cX9_isBetween 3 (some .boolean), .methodLink RX9 181 yX4_latest, .instanceMethod yX4_latest, .selects RX4 yX4_latest yX4_latest, .initialized RX4, .code yX4_latest cX4_latest 1 (some .int), .fieldLink RX4 18 "GobRow$Knots" "count" "I", .fieldLink RX4 9 "GobRow$Knots" "degrees" "[I", .methodLink RX9 184 yX4_add, .instanceMethod yX4_add, .selects RX4 yX4_add yX4_add, .code yX4_add cX4_add 3 none, .fieldLink RX4 15 "GobRow$Knots" "places" "[I"] ++ wsX90 ++ wsX70 ++ wsX40)
def wsX9_forget : List Cond := .code yX9_forget cX9_forget 2 (some .int) :: ([.fieldLink RX9 19 "GobRow" "rail" "LGobRow$Rail;", .fieldLink RX9 165 "GobRow$Rail" "told" "LGobRow$Knots;", .fieldLink RX9 169 "GobRow$Knots" "count" "I"] ++ wsX90 ++ wsX70 ++ wsX40)
def wsX9_greatestDivisor : List Cond := .code yX9_greatestDivisor cX9_greatestDivisor 6 (some .int) :: ([.methodLink RX9 316 Lib.Math.max.name, .static Lib.Math.max.name, .initialized "java/lang/Math", .code Lib.Math.max.name Lib.Math.max.code 2 (some .int)])
def wsX9_place_r1 : List Cond := [Cond.fieldLink RX9 19 "GobRow" "rail" "LGobRow$Rail;", Cond.fieldLink RX9 188 "GobRow$Rail" "arms" "[LGobRow$Knots;", Cond.methodLink RX9 162 yX9_isArm, Cond.static yX9_isArm, Cond.initialized RX9, Cond.code yX9_isArm cX9_isArm 1 (some .boolean), Cond.methodLink RX9 98 yX9_isBetween, Cond.static yX9_isBetween, Cond.code yX9_isBetween cX9_isBetween 3 (some .boolean), Cond.methodLink RX9 152 yX9_isDegree, Cond.static yX9_isDegree, Cond.code yX9_isDegree cX9_isDegree 1 (some .boolean), Cond.methodLink RX9 192 yX4_above, Cond.instanceMethod yX4_above, Cond.selects RX4 yX4_above yX4_above, Cond.initialized RX4, Cond.code yX4_above cX4_above 4 (some .int), Cond.fieldLink RX4 15 "GobRow$Knots" "places" "[I", Cond.fieldLink RX4 9 "GobRow$Knots" "degrees" "[I", Cond.methodLink RX4 22 yX4_lastAhead, Cond.instanceMethod yX4_lastAhead, Cond.selects RX4 yX4_lastAhead yX4_lastAhead, Cond.code yX4_lastAhead cX4_lastAhead 4 (some .int), Cond.fieldLink RX4 18 "GobRow$Knots" "count" "I"]
def wsX9_place_r2 : List Cond := [Cond.methodLink RX4 36 Lib.Math.max.name, Cond.static Lib.Math.max.name, Cond.initialized "java/lang/Math", Cond.code Lib.Math.max.name Lib.Math.max.code 2 (some .int), Cond.methodLink RX4 26 yX4_nextInRing, Cond.instanceMethod yX4_nextInRing, Cond.selects RX4 yX4_nextInRing yX4_nextInRing, Cond.code yX4_nextInRing cX4_nextInRing 2 (some .int), Cond.methodLink RX4 29 yX4_below, Cond.instanceMethod yX4_below, Cond.selects RX4 yX4_below yX4_below, Cond.code yX4_below cX4_below 4 (some .int), Cond.static yX9_wayUp, Cond.code yX9_wayUp cX9_wayUp 2 (some .int), Cond.methodLink RX9 195 yX4_below, Cond.methodLink RX9 198 yX9_greatestDivisor, Cond.static yX9_greatestDivisor, Cond.code yX9_greatestDivisor cX9_greatestDivisor 6 (some .int), Cond.methodLink RX9 316 Lib.Math.max.name]
def wsX9_place : List Cond := .code yX9_place cX9_place 7 (some .int) :: ((wsX9_place_r1 ++ wsX9_place_r2) ++ wsX90 ++ wsX70 ++ wsX40)
def wsX9_nearest_r1 : List Cond := [Cond.fieldLink RX9 19 "GobRow" "rail" "LGobRow$Rail;", Cond.fieldLink RX9 188 "GobRow$Rail" "arms" "[LGobRow$Knots;", Cond.methodLink RX9 162 yX9_isArm, Cond.static yX9_isArm, Cond.initialized RX9, Cond.code yX9_isArm cX9_isArm 1 (some .boolean), Cond.methodLink RX9 98 yX9_isBetween, Cond.static yX9_isBetween, Cond.code yX9_isBetween cX9_isBetween 3 (some .boolean), Cond.methodLink RX9 202 yX7_nearestDegree, Cond.instanceMethod yX7_nearestDegree, Cond.selects RX7 yX7_nearestDegree yX7_nearestDegree, Cond.initialized RX7, Cond.code yX7_nearestDegree cX7_nearestDegree 5 (some .int), Cond.fieldLink RX7 30 "GobRow$Knots" "count" "I", Cond.fieldLink RX7 34 "GobRow$Knots" "degrees" "[I", Cond.methodLink RX7 38 yX7_nearerDegree, Cond.static yX7_nearerDegree, Cond.code yX7_nearerDegree cX7_nearerDegree 8 (some .int), Cond.methodLink RX7 60 Lib.Math.min.name, Cond.static Lib.Math.min.name, Cond.initialized "java/lang/Math", Cond.code Lib.Math.min.name Lib.Math.min.code 2 (some .int), Cond.methodLink RX7 53 yX7_distanceAbove]
def wsX9_nearest_r2 : List Cond := [Cond.static yX7_distanceAbove, Cond.code yX7_distanceAbove cX7_distanceAbove 7 (some .long), Cond.methodLink RX7 50 yX4_above, Cond.instanceMethod yX4_above, Cond.selects RX4 yX4_above yX4_above, Cond.initialized RX4, Cond.code yX4_above cX4_above 4 (some .int), Cond.fieldLink RX4 15 "GobRow$Knots" "places" "[I", Cond.fieldLink RX4 9 "GobRow$Knots" "degrees" "[I", Cond.methodLink RX4 22 yX4_lastAhead, Cond.instanceMethod yX4_lastAhead, Cond.selects RX4 yX4_lastAhead yX4_lastAhead, Cond.code yX4_lastAhead cX4_lastAhead 4 (some .int), Cond.fieldLink RX4 18 "GobRow$Knots" "count" "I", Cond.methodLink RX4 36 Lib.Math.max.name, Cond.static Lib.Math.max.name, Cond.code Lib.Math.max.name Lib.Math.max.code 2 (some .int), Cond.methodLink RX4 26 yX4_nextInRing, Cond.instanceMethod yX4_nextInRing, Cond.selects RX4 yX4_nextInRing yX4_nextInRing, Cond.code yX4_nextInRing cX4_nextInRing 2 (some .int), Cond.methodLink RX4 29 yX4_below, Cond.instanceMethod yX4_below, Cond.selects RX4 yX4_below yX4_below]
def wsX9_nearest_r3 : List Cond := [Cond.code yX4_below cX4_below 4 (some .int), Cond.static yX9_wayUp, Cond.code yX9_wayUp cX9_wayUp 2 (some .int), Cond.methodLink RX7 46 yX4_below, Cond.methodLink RX7 57 yX7_distanceBelow, Cond.static yX7_distanceBelow, Cond.code yX7_distanceBelow cX7_distanceBelow 3 (some .long)]
def wsX9_nearest : List Cond := .code yX9_nearest cX9_nearest 3 (some .int) :: ((wsX9_nearest_r1 ++ (wsX9_nearest_r2 ++ wsX9_nearest_r3)) ++ wsX90 ++ wsX70 ++ wsX40)
def wsX9_stop : List Cond := .code yX9_stop cX9_stop 3 (some .int) :: ([.fieldLink RX9 26 "GobRow" "order" "LGobRow$Order;", .fieldLink RX9 212 "GobRow$Order" "count" "I", .methodLink RX9 94 yX9_isSection, .static yX9_isSection, .initialized RX9, .code yX9_isSection cX9_isSection 1 (some .boolean), .methodLink RX9 98 yX9_isBetween, .static yX9_isBetween, .code yX9_isBetween cX9_isBetween 3 (some .boolean), .methodLink RX9 206 yX6_find, .instanceMethod yX6_find, .selects RX6 yX6_find yX6_find, .initialized RX6, .code yX6_find cX6_find 3 (some .int), .fieldLink RX6 19 "GobRow$Order" "count" "I", .fieldLink RX6 9 "GobRow$Order" "sections" "[I", .methodLink RX9 209 yX6_leave, .instanceMethod yX6_leave, .selects RX6 yX6_leave yX6_leave, .code yX6_leave cX6_leave 3 none, .fieldLink RX6 15 "GobRow$Order" "turnAt" "I"] ++ wsX90 ++ wsX60)
def wsX9_start : List Cond := .code yX9_start cX9_start 2 (some .int) :: ([.fieldLink RX9 26 "GobRow" "order" "LGobRow$Order;", .fieldLink RX9 212 "GobRow$Order" "count" "I", .methodLink RX9 94 yX9_isSection, .static yX9_isSection, .initialized RX9, .code yX9_isSection cX9_isSection 1 (some .boolean), .methodLink RX9 98 yX9_isBetween, .static yX9_isBetween, .code yX9_isBetween cX9_isBetween 3 (some .boolean), .methodLink RX9 206 yX6_find, .instanceMethod yX6_find, .selects RX6 yX6_find yX6_find, .initialized RX6, .code yX6_find cX6_find 3 (some .int), .fieldLink RX6 19 "GobRow$Order" "count" "I", .fieldLink RX6 9 "GobRow$Order" "sections" "[I", .methodLink RX9 213 yX6_join, .instanceMethod yX6_join, .selects RX6 yX6_join yX6_join, .code yX6_join cX6_join 2 none] ++ wsX90 ++ wsX60)
def wsX9_isJob : List Cond := .code yX9_isJob cX9_isJob 1 (some .boolean) :: ([.methodLink RX9 98 yX9_isBetween, .static yX9_isBetween, .initialized RX9, .code yX9_isBetween cX9_isBetween 3 (some .boolean)])
def wsX9_job : List Cond := .code yX9_job cX9_job 4 (some .int) :: ([.fieldLink RX9 44 "GobRow" "jobOfSection" "[I", .methodLink RX9 94 yX9_isSection, .static yX9_isSection, .initialized RX9, .code yX9_isSection cX9_isSection 1 (some .boolean), .methodLink RX9 98 yX9_isBetween, .static yX9_isBetween, .code yX9_isBetween cX9_isBetween 3 (some .boolean), .methodLink RX9 216 yX9_isJob, .static yX9_isJob, .code yX9_isJob cX9_isJob 1 (some .boolean)] ++ wsX90)
def wsX9_isColour : List Cond := .code yX9_isColour cX9_isColour 1 (some .boolean) :: ([.methodLink RX9 98 yX9_isBetween, .static yX9_isBetween, .initialized RX9, .code yX9_isBetween cX9_isBetween 3 (some .boolean)])
def wsX9_aim : List Cond := .code yX9_aim cX9_aim 4 (some .int) :: ([.fieldLink RX9 48 "GobRow" "aimOfJob" "[I", .fieldLink RX9 51 "GobRow" "colourOfJob" "[I", .methodLink RX9 216 yX9_isJob, .static yX9_isJob, .initialized RX9, .code yX9_isJob cX9_isJob 1 (some .boolean), .methodLink RX9 98 yX9_isBetween, .static yX9_isBetween, .code yX9_isBetween cX9_isBetween 3 (some .boolean), .methodLink RX9 219 yX9_isColour, .static yX9_isColour, .code yX9_isColour cX9_isColour 1 (some .boolean)] ++ wsX90)
def wsX9_glass : List Cond := .code yX9_glass cX9_glass 3 (some .int) :: ([.fieldLink RX9 57 "GobRow" "glassColour" "I", .fieldLink RX9 61 "GobRow" "mixed" "I", .methodLink RX9 219 yX9_isColour, .static yX9_isColour, .initialized RX9, .code yX9_isColour cX9_isColour 1 (some .boolean), .methodLink RX9 98 yX9_isBetween, .static yX9_isBetween, .code yX9_isBetween cX9_isBetween 3 (some .boolean)] ++ wsX90)
def wsX9_isMould : List Cond := .code yX9_isMould cX9_isMould 1 (some .boolean) :: ([.methodLink RX9 98 yX9_isBetween, .static yX9_isBetween, .initialized RX9, .code yX9_isBetween cX9_isBetween 3 (some .boolean)])
def wsX9_mould : List Cond := .code yX9_mould cX9_mould 4 (some .int) :: ([.fieldLink RX9 33 "GobRow" "moulds" "LGobRow$Moulds;", .fieldLink RX9 228 "GobRow$Moulds" "inSection" "[I", .methodLink RX9 94 yX9_isSection, .static yX9_isSection, .initialized RX9, .code yX9_isSection cX9_isSection 1 (some .boolean), .methodLink RX9 98 yX9_isBetween, .static yX9_isBetween, .code yX9_isBetween cX9_isBetween 3 (some .boolean), .methodLink RX9 222 yX9_isMould, .static yX9_isMould, .code yX9_isMould cX9_isMould 1 (some .boolean), .methodLink RX9 225 yX5_sectionOf, .instanceMethod yX5_sectionOf, .selects RX5 yX5_sectionOf yX5_sectionOf, .initialized RX5, .code yX5_sectionOf cX5_sectionOf 3 (some .int), .fieldLink RX5 28 "GobRow$Moulds" "inSection" "[I"] ++ wsX90 ++ wsX50)
def wsX9_swab : List Cond := .code yX9_swab cX9_swab 3 (some .int) :: ([.fieldLink RX9 33 "GobRow" "moulds" "LGobRow$Moulds;", .fieldLink RX9 231 "GobRow$Moulds" "dust" "[I", .methodLink RX9 222 yX9_isMould, .static yX9_isMould, .initialized RX9, .code yX9_isMould cX9_isMould 1 (some .boolean), .methodLink RX9 98 yX9_isBetween, .static yX9_isBetween, .code yX9_isBetween cX9_isBetween 3 (some .boolean)] ++ wsX90 ++ wsX50)
def wsX9_repair : List Cond := .code yX9_repair cX9_repair 3 (some .int) :: ([.fieldLink RX9 33 "GobRow" "moulds" "LGobRow$Moulds;", .fieldLink RX9 234 "GobRow$Moulds" "uses" "[I", .methodLink RX9 222 yX9_isMould, .static yX9_isMould, .initialized RX9, .code yX9_isMould cX9_isMould 1 (some .boolean), .methodLink RX9 98 yX9_isBetween, .static yX9_isBetween, .code yX9_isBetween cX9_isBetween 3 (some .boolean), .methodLink RX9 237 yX5_makeNew, .instanceMethod yX5_makeNew, .selects RX5 yX5_makeNew yX5_makeNew, .initialized RX5, .code yX5_makeNew cX5_makeNew 2 none, .fieldLink RX5 9 "GobRow$Moulds" "uses" "[I", .fieldLink RX5 15 "GobRow$Moulds" "dust" "[I", .fieldLink RX5 18 "GobRow$Moulds" "pulled" "[Z"] ++ wsX90 ++ wsX50)
def wsX9_pull : List Cond := .code yX9_pull cX9_pull 4 (some .int) :: ([.fieldLink RX9 33 "GobRow" "moulds" "LGobRow$Moulds;", .fieldLink RX9 240 "GobRow$Moulds" "pulled" "[Z", .methodLink RX9 222 yX9_isMould, .static yX9_isMould, .initialized RX9, .code yX9_isMould cX9_isMould 1 (some .boolean), .methodLink RX9 98 yX9_isBetween, .static yX9_isBetween, .code yX9_isBetween cX9_isBetween 3 (some .boolean), .methodLink RX9 158 yX9_asNumber, .static yX9_asNumber, .code yX9_asNumber cX9_asNumber 1 (some .int)] ++ wsX90 ++ wsX50)
def wsX9_rule : List Cond := .code yX9_rule cX9_rule 4 (some .int) :: ([.fieldLink RX9 67 "GobRow" "drift" "I", .fieldLink RX9 70 "GobRow" "lasts" "I", .methodLink RX9 98 yX9_isBetween, .static yX9_isBetween, .initialized RX9, .code yX9_isBetween cX9_isBetween 3 (some .boolean)] ++ wsX90)
def wsX9_book : List Cond := .code yX9_book cX9_book 3 (some .int) :: ([.fieldLink RX9 33 "GobRow" "moulds" "LGobRow$Moulds;", .fieldLink RX9 234 "GobRow$Moulds" "uses" "[I", .fieldLink RX9 231 "GobRow$Moulds" "dust" "[I", .fieldLink RX9 240 "GobRow$Moulds" "pulled" "[Z", .fieldLink RX9 244 "GobRow$Moulds" "good" "[I", .fieldLink RX9 247 "GobRow$Moulds" "bad" "[I", .methodLink RX9 222 yX9_isMould, .static yX9_isMould, .initialized RX9, .code yX9_isMould cX9_isMould 1 (some .boolean), .methodLink RX9 98 yX9_isBetween, .static yX9_isBetween, .code yX9_isBetween cX9_isBetween 3 (some .boolean), .methodLink RX9 158 yX9_asNumber, .static yX9_asNumber, .code yX9_asNumber cX9_asNumber 1 (some .int), .methodLink RX9 225 yX5_sectionOf, .instanceMethod yX5_sectionOf, .selects RX5 yX5_sectionOf yX5_sectionOf, .initialized RX5, .code yX5_sectionOf cX5_sectionOf 3 (some .int), .fieldLink RX5 28 "GobRow$Moulds" "inSection" "[I"] ++ wsX90 ++ wsX50)
def wsX9_verdict : List Cond := .code yX9_verdict cX9_verdict 2 (some .int) :: ([.fieldLink RX9 298 "GobRow$Bottle" "fault" "I", .fieldLink RX9 33 "GobRow" "moulds" "LGobRow$Moulds;", .fieldLink RX9 240 "GobRow$Moulds" "pulled" "[Z", .fieldLink RX9 269 "GobRow$Bottle" "mould" "I", .fieldLink RX9 275 "GobRow$Bottle" "weight" "I", .fieldLink RX9 292 "GobRow$Bottle" "aim" "I", .methodLink RX9 301 Lib.Math.abs.name, .static Lib.Math.abs.name, .initialized "java/lang/Math", .code Lib.Math.abs.name Lib.Math.abs.code 1 (some .int)] ++ wsX10 ++ wsX90 ++ wsX50)
def wsX9_takeOffEldest_r1 : List Cond := [Cond.fieldLink RX9 40 "GobRow" "belt" "LGobRow$Belt;", Cond.fieldLink RX9 54 "GobRow" "judged" "[I", Cond.fieldLink RX9 33 "GobRow" "moulds" "LGobRow$Moulds;", Cond.fieldLink RX9 269 "GobRow$Bottle" "mould" "I", Cond.fieldLink RX9 261 "GobRow$Bottle" "number" "I", Cond.fieldLink RX9 64 "GobRow" "tube" "I", Cond.fieldLink RX9 292 "GobRow$Bottle" "aim" "I", Cond.fieldLink RX9 275 "GobRow$Bottle" "weight" "I", Cond.methodLink RX9 313 Lib.Math.min.name, Cond.static Lib.Math.min.name, Cond.initialized "java/lang/Math", Cond.code Lib.Math.min.name Lib.Math.min.code 2 (some .int), Cond.methodLink RX9 316 Lib.Math.max.name, Cond.static Lib.Math.max.name, Cond.code Lib.Math.max.name Lib.Math.max.code 2 (some .int), Cond.methodLink RX9 306 yX0_takeEldest, Cond.instanceMethod yX0_takeEldest, Cond.selects RX0 yX0_takeEldest yX0_takeEldest, Cond.initialized RX0, Cond.code yX0_takeEldest cX0_takeEldest 2 (some (.object "GobRow$Bottle")), Cond.fieldLink RX0 11 "GobRow$Belt" "ring" "[LGobRow$Bottle;", Cond.fieldLink RX0 17 "GobRow$Belt" "eldest" "I", Cond.fieldLink RX0 21 "GobRow$Belt" "count" "I", Cond.methodLink RX9 278 yX9_verdict]
def wsX9_takeOffEldest_r2 : List Cond := [Cond.instanceMethod yX9_verdict, Cond.selects RX9 yX9_verdict yX9_verdict, Cond.initialized RX9, Cond.code yX9_verdict cX9_verdict 2 (some .int), Cond.fieldLink RX9 298 "GobRow$Bottle" "fault" "I", Cond.fieldLink RX9 240 "GobRow$Moulds" "pulled" "[Z", Cond.methodLink RX9 301 Lib.Math.abs.name, Cond.static Lib.Math.abs.name, Cond.code Lib.Math.abs.name Lib.Math.abs.code 1 (some .int), Cond.methodLink RX9 309 yX5_enter, Cond.instanceMethod yX5_enter, Cond.selects RX5 yX5_enter yX5_enter, Cond.initialized RX5, Cond.code yX5_enter cX5_enter 3 none, Cond.fieldLink RX5 22 "GobRow$Moulds" "good" "[I", Cond.fieldLink RX5 25 "GobRow$Moulds" "bad" "[I"]
def wsX9_takeOffEldest : List Cond := .code yX9_takeOffEldest cX9_takeOffEldest 4 none :: ((wsX9_takeOffEldest_r1 ++ wsX9_takeOffEldest_r2) ++ wsX90 ++ wsX10 ++ wsX00 ++ wsX50)
def wsX9_faultOfCut : List Cond := .code yX9_faultOfCut cX9_faultOfCut 3 (some .int) :: ([.fieldLink RX9 61 "GobRow" "mixed" "I", .fieldLink RX9 51 "GobRow" "colourOfJob" "[I", .fieldLink RX9 57 "GobRow" "glassColour" "I", .fieldLink RX9 33 "GobRow" "moulds" "LGobRow$Moulds;", .fieldLink RX9 231 "GobRow$Moulds" "dust" "[I", .fieldLink RX9 234 "GobRow$Moulds" "uses" "[I", .fieldLink RX9 70 "GobRow" "lasts" "I"] ++ wsX90 ++ wsX50)
def wsX9_makeBottle_r1 : List Cond := [Cond.fieldLink RX9 26 "GobRow" "order" "LGobRow$Order;", Cond.fieldLink RX9 33 "GobRow" "moulds" "LGobRow$Moulds;", Cond.fieldLink RX9 228 "GobRow$Moulds" "inSection" "[I", Cond.fieldLink RX9 44 "GobRow" "jobOfSection" "[I", Cond.fieldLink RX9 234 "GobRow$Moulds" "uses" "[I", Cond.fieldLink RX9 231 "GobRow$Moulds" "dust" "[I", Cond.fieldLink RX9 40 "GobRow" "belt" "LGobRow$Belt;", Cond.fieldLink RX9 73 "GobRow" "cuts" "I", Cond.fieldLink RX9 261 "GobRow$Bottle" "number" "I", Cond.fieldLink RX9 266 "GobRow$Bottle" "section" "I", Cond.fieldLink RX9 269 "GobRow$Bottle" "mould" "I", Cond.fieldLink RX9 272 "GobRow$Bottle" "job" "I", Cond.fieldLink RX9 48 "GobRow" "aimOfJob" "[I", Cond.fieldLink RX9 292 "GobRow$Bottle" "aim" "I", Cond.fieldLink RX9 64 "GobRow" "tube" "I", Cond.fieldLink RX9 67 "GobRow" "drift" "I", Cond.fieldLink RX9 275 "GobRow$Bottle" "weight" "I", Cond.fieldLink RX9 298 "GobRow$Bottle" "fault" "I", Cond.fieldLink RX9 61 "GobRow" "mixed" "I", Cond.methodLink RX9 282 yX6_next, Cond.instanceMethod yX6_next, Cond.selects RX6 yX6_next yX6_next, Cond.initialized RX6, Cond.code yX6_next cX6_next 1 (some .int)]
def wsX9_makeBottle_r2 : List Cond := [Cond.fieldLink RX6 19 "GobRow$Order" "count" "I", Cond.fieldLink RX6 9 "GobRow$Order" "sections" "[I", Cond.fieldLink RX6 15 "GobRow$Order" "turnAt" "I", Cond.methodLink RX9 285 yX6_pass, Cond.instanceMethod yX6_pass, Cond.selects RX6 yX6_pass yX6_pass, Cond.code yX6_pass cX6_pass 1 none, Cond.methodLink RX9 288 yX0_putLast, Cond.instanceMethod yX0_putLast, Cond.selects RX0 yX0_putLast yX0_putLast, Cond.initialized RX0, Cond.code yX0_putLast cX0_putLast 2 (some (.object "GobRow$Bottle")), Cond.fieldLink RX0 21 "GobRow$Belt" "count" "I", Cond.methodLink RX0 25 yX0_fromEldest, Cond.instanceMethod yX0_fromEldest, Cond.selects RX0 yX0_fromEldest yX0_fromEldest, Cond.code yX0_fromEldest cX0_fromEldest 2 (some (.object "GobRow$Bottle")), Cond.fieldLink RX0 11 "GobRow$Belt" "ring" "[LGobRow$Bottle;", Cond.fieldLink RX0 17 "GobRow$Belt" "eldest" "I", Cond.methodLink RX9 295 yX9_faultOfCut, Cond.instanceMethod yX9_faultOfCut, Cond.selects RX9 yX9_faultOfCut yX9_faultOfCut, Cond.initialized RX9, Cond.code yX9_faultOfCut cX9_faultOfCut 3 (some .int)]
def wsX9_makeBottle_r3 : List Cond := [Cond.fieldLink RX9 51 "GobRow" "colourOfJob" "[I", Cond.fieldLink RX9 57 "GobRow" "glassColour" "I", Cond.fieldLink RX9 70 "GobRow" "lasts" "I"]
def wsX9_makeBottle : List Cond := .code yX9_makeBottle cX9_makeBottle 5 none :: ((wsX9_makeBottle_r1 ++ (wsX9_makeBottle_r2 ++ wsX9_makeBottle_r3)) ++ wsX90 ++ wsX50 ++ wsX10 ++ wsX60 ++ wsX00)
def wsX9_cut_r1 : List Cond := [Cond.fieldLink RX9 26 "GobRow" "order" "LGobRow$Order;", Cond.fieldLink RX9 212 "GobRow$Order" "count" "I", Cond.fieldLink RX9 40 "GobRow" "belt" "LGobRow$Belt;", Cond.fieldLink RX9 250 "GobRow$Belt" "count" "I", Cond.methodLink RX9 98 yX9_isBetween, Cond.static yX9_isBetween, Cond.initialized RX9, Cond.code yX9_isBetween cX9_isBetween 3 (some .boolean), Cond.methodLink RX9 251 yX9_takeOffEldest, Cond.instanceMethod yX9_takeOffEldest, Cond.selects RX9 yX9_takeOffEldest yX9_takeOffEldest, Cond.code yX9_takeOffEldest cX9_takeOffEldest 4 none, Cond.fieldLink RX9 54 "GobRow" "judged" "[I", Cond.fieldLink RX9 33 "GobRow" "moulds" "LGobRow$Moulds;", Cond.fieldLink RX9 269 "GobRow$Bottle" "mould" "I", Cond.fieldLink RX9 261 "GobRow$Bottle" "number" "I", Cond.fieldLink RX9 64 "GobRow" "tube" "I", Cond.fieldLink RX9 292 "GobRow$Bottle" "aim" "I", Cond.fieldLink RX9 275 "GobRow$Bottle" "weight" "I", Cond.methodLink RX9 313 Lib.Math.min.name, Cond.static Lib.Math.min.name, Cond.initialized "java/lang/Math", Cond.code Lib.Math.min.name Lib.Math.min.code 2 (some .int), Cond.methodLink RX9 316 Lib.Math.max.name]
def wsX9_cut_r2 : List Cond := [Cond.static Lib.Math.max.name, Cond.code Lib.Math.max.name Lib.Math.max.code 2 (some .int), Cond.methodLink RX9 306 yX0_takeEldest, Cond.instanceMethod yX0_takeEldest, Cond.selects RX0 yX0_takeEldest yX0_takeEldest, Cond.initialized RX0, Cond.code yX0_takeEldest cX0_takeEldest 2 (some (.object "GobRow$Bottle")), Cond.fieldLink RX0 11 "GobRow$Belt" "ring" "[LGobRow$Bottle;", Cond.fieldLink RX0 17 "GobRow$Belt" "eldest" "I", Cond.fieldLink RX0 21 "GobRow$Belt" "count" "I", Cond.methodLink RX9 278 yX9_verdict, Cond.instanceMethod yX9_verdict, Cond.selects RX9 yX9_verdict yX9_verdict, Cond.code yX9_verdict cX9_verdict 2 (some .int), Cond.fieldLink RX9 298 "GobRow$Bottle" "fault" "I", Cond.fieldLink RX9 240 "GobRow$Moulds" "pulled" "[Z", Cond.methodLink RX9 301 Lib.Math.abs.name, Cond.static Lib.Math.abs.name, Cond.code Lib.Math.abs.name Lib.Math.abs.code 1 (some .int), Cond.methodLink RX9 309 yX5_enter, Cond.instanceMethod yX5_enter, Cond.selects RX5 yX5_enter yX5_enter, Cond.initialized RX5, Cond.code yX5_enter cX5_enter 3 none]
def wsX9_cut_r3 : List Cond := [Cond.fieldLink RX5 22 "GobRow$Moulds" "good" "[I", Cond.fieldLink RX5 25 "GobRow$Moulds" "bad" "[I", Cond.methodLink RX9 254 yX9_makeBottle, Cond.instanceMethod yX9_makeBottle, Cond.selects RX9 yX9_makeBottle yX9_makeBottle, Cond.code yX9_makeBottle cX9_makeBottle 5 none, Cond.fieldLink RX9 228 "GobRow$Moulds" "inSection" "[I", Cond.fieldLink RX9 44 "GobRow" "jobOfSection" "[I", Cond.fieldLink RX9 234 "GobRow$Moulds" "uses" "[I", Cond.fieldLink RX9 231 "GobRow$Moulds" "dust" "[I", Cond.fieldLink RX9 73 "GobRow" "cuts" "I", Cond.fieldLink RX9 266 "GobRow$Bottle" "section" "I", Cond.fieldLink RX9 272 "GobRow$Bottle" "job" "I", Cond.fieldLink RX9 48 "GobRow" "aimOfJob" "[I", Cond.fieldLink RX9 67 "GobRow" "drift" "I", Cond.fieldLink RX9 61 "GobRow" "mixed" "I", Cond.methodLink RX9 282 yX6_next, Cond.instanceMethod yX6_next, Cond.selects RX6 yX6_next yX6_next, Cond.initialized RX6, Cond.code yX6_next cX6_next 1 (some .int), Cond.fieldLink RX6 19 "GobRow$Order" "count" "I", Cond.fieldLink RX6 9 "GobRow$Order" "sections" "[I", Cond.fieldLink RX6 15 "GobRow$Order" "turnAt" "I"]
def wsX9_cut_r4 : List Cond := [Cond.methodLink RX9 285 yX6_pass, Cond.instanceMethod yX6_pass, Cond.selects RX6 yX6_pass yX6_pass, Cond.code yX6_pass cX6_pass 1 none, Cond.methodLink RX9 288 yX0_putLast, Cond.instanceMethod yX0_putLast, Cond.selects RX0 yX0_putLast yX0_putLast, Cond.code yX0_putLast cX0_putLast 2 (some (.object "GobRow$Bottle")), Cond.methodLink RX0 25 yX0_fromEldest, Cond.instanceMethod yX0_fromEldest, Cond.selects RX0 yX0_fromEldest yX0_fromEldest, Cond.code yX0_fromEldest cX0_fromEldest 2 (some (.object "GobRow$Bottle")), Cond.methodLink RX9 295 yX9_faultOfCut, Cond.instanceMethod yX9_faultOfCut, Cond.selects RX9 yX9_faultOfCut yX9_faultOfCut, Cond.code yX9_faultOfCut cX9_faultOfCut 3 (some .int), Cond.fieldLink RX9 51 "GobRow" "colourOfJob" "[I", Cond.fieldLink RX9 57 "GobRow" "glassColour" "I", Cond.fieldLink RX9 70 "GobRow" "lasts" "I"]
def wsX9_cut : List Cond := .code yX9_cut cX9_cut 4 (some .int) :: ((wsX9_cut_r1 ++ (wsX9_cut_r2 ++ (wsX9_cut_r3 ++ wsX9_cut_r4))) ++ wsX90 ++ wsX60 ++ wsX00 ++ wsX10 ++ wsX50)
def wsX9_drain_r1 : List Cond := [Cond.fieldLink RX9 40 "GobRow" "belt" "LGobRow$Belt;", Cond.fieldLink RX9 250 "GobRow$Belt" "count" "I", Cond.methodLink RX9 251 yX9_takeOffEldest, Cond.instanceMethod yX9_takeOffEldest, Cond.selects RX9 yX9_takeOffEldest yX9_takeOffEldest, Cond.initialized RX9, Cond.code yX9_takeOffEldest cX9_takeOffEldest 4 none, Cond.fieldLink RX9 54 "GobRow" "judged" "[I", Cond.fieldLink RX9 33 "GobRow" "moulds" "LGobRow$Moulds;", Cond.fieldLink RX9 269 "GobRow$Bottle" "mould" "I", Cond.fieldLink RX9 261 "GobRow$Bottle" "number" "I", Cond.fieldLink RX9 64 "GobRow" "tube" "I", Cond.fieldLink RX9 292 "GobRow$Bottle" "aim" "I", Cond.fieldLink RX9 275 "GobRow$Bottle" "weight" "I", Cond.methodLink RX9 313 Lib.Math.min.name, Cond.static Lib.Math.min.name, Cond.initialized "java/lang/Math", Cond.code Lib.Math.min.name Lib.Math.min.code 2 (some .int), Cond.methodLink RX9 316 Lib.Math.max.name, Cond.static Lib.Math.max.name, Cond.code Lib.Math.max.name Lib.Math.max.code 2 (some .int), Cond.methodLink RX9 306 yX0_takeEldest, Cond.instanceMethod yX0_takeEldest, Cond.selects RX0 yX0_takeEldest yX0_takeEldest]
def wsX9_drain_r2 : List Cond := [Cond.initialized RX0, Cond.code yX0_takeEldest cX0_takeEldest 2 (some (.object "GobRow$Bottle")), Cond.fieldLink RX0 11 "GobRow$Belt" "ring" "[LGobRow$Bottle;", Cond.fieldLink RX0 17 "GobRow$Belt" "eldest" "I", Cond.fieldLink RX0 21 "GobRow$Belt" "count" "I", Cond.methodLink RX9 278 yX9_verdict, Cond.instanceMethod yX9_verdict, Cond.selects RX9 yX9_verdict yX9_verdict, Cond.code yX9_verdict cX9_verdict 2 (some .int), Cond.fieldLink RX9 298 "GobRow$Bottle" "fault" "I", Cond.fieldLink RX9 240 "GobRow$Moulds" "pulled" "[Z", Cond.methodLink RX9 301 Lib.Math.abs.name, Cond.static Lib.Math.abs.name, Cond.code Lib.Math.abs.name Lib.Math.abs.code 1 (some .int), Cond.methodLink RX9 309 yX5_enter, Cond.instanceMethod yX5_enter, Cond.selects RX5 yX5_enter yX5_enter, Cond.initialized RX5, Cond.code yX5_enter cX5_enter 3 none, Cond.fieldLink RX5 22 "GobRow$Moulds" "good" "[I", Cond.fieldLink RX5 25 "GobRow$Moulds" "bad" "[I"]
def wsX9_drain : List Cond := .code yX9_drain cX9_drain 3 (some .int) :: ((wsX9_drain_r1 ++ wsX9_drain_r2) ++ wsX90 ++ wsX00 ++ wsX10 ++ wsX50)
def wsX9_bottle_r1 : List Cond := [Cond.fieldLink RX9 40 "GobRow" "belt" "LGobRow$Belt;", Cond.fieldLink RX9 250 "GobRow$Belt" "count" "I", Cond.fieldLink RX9 261 "GobRow$Bottle" "number" "I", Cond.fieldLink RX9 266 "GobRow$Bottle" "section" "I", Cond.fieldLink RX9 269 "GobRow$Bottle" "mould" "I", Cond.fieldLink RX9 272 "GobRow$Bottle" "job" "I", Cond.fieldLink RX9 275 "GobRow$Bottle" "weight" "I", Cond.methodLink RX9 257 yX0_fromEldest, Cond.instanceMethod yX0_fromEldest, Cond.selects RX0 yX0_fromEldest yX0_fromEldest, Cond.initialized RX0, Cond.code yX0_fromEldest cX0_fromEldest 2 (some (.object "GobRow$Bottle")), Cond.fieldLink RX0 11 "GobRow$Belt" "ring" "[LGobRow$Bottle;", Cond.fieldLink RX0 17 "GobRow$Belt" "eldest" "I", Cond.methodLink RX9 278 yX9_verdict, Cond.instanceMethod yX9_verdict, Cond.selects RX9 yX9_verdict yX9_verdict, Cond.initialized RX9, Cond.code yX9_verdict cX9_verdict 2 (some .int), Cond.fieldLink RX9 298 "GobRow$Bottle" "fault" "I", Cond.fieldLink RX9 33 "GobRow" "moulds" "LGobRow$Moulds;", Cond.fieldLink RX9 240 "GobRow$Moulds" "pulled" "[Z", Cond.fieldLink RX9 292 "GobRow$Bottle" "aim" "I", Cond.methodLink RX9 301 Lib.Math.abs.name]
def wsX9_bottle_r2 : List Cond := [Cond.static Lib.Math.abs.name, Cond.initialized "java/lang/Math", Cond.code Lib.Math.abs.name Lib.Math.abs.code 1 (some .int)]
def wsX9_bottle : List Cond := .code yX9_bottle cX9_bottle 4 (some .int) :: ((wsX9_bottle_r1 ++ wsX9_bottle_r2) ++ wsX90 ++ wsX00 ++ wsX10 ++ wsX50)
def wsX9_many : List Cond := .code yX9_many cX9_many 2 (some .int) :: ([.fieldLink RX9 54 "GobRow" "judged" "[I", .fieldLink RX9 73 "GobRow" "cuts" "I", .fieldLink RX9 40 "GobRow" "belt" "LGobRow$Belt;", .fieldLink RX9 250 "GobRow$Belt" "count" "I", .fieldLink RX9 26 "GobRow" "order" "LGobRow$Order;", .fieldLink RX9 212 "GobRow$Order" "count" "I", .fieldLink RX9 64 "GobRow" "tube" "I", .fieldLink RX9 61 "GobRow" "mixed" "I", .fieldLink RX9 10 "GobRow" "drums" "LGobRow$Drums;", .fieldLink RX9 113 "GobRow$Drums" "lawCount" "I", .fieldLink RX9 125 "GobRow$Drums" "turnsAMinute" "I", .fieldLink RX9 57 "GobRow" "glassColour" "I", .methodLink RX9 98 yX9_isBetween, .static yX9_isBetween, .initialized RX9, .code yX9_isBetween cX9_isBetween 3 (some .boolean), .methodLink RX9 282 yX6_next, .instanceMethod yX6_next, .selects RX6 yX6_next yX6_next, .initialized RX6, .code yX6_next cX6_next 1 (some .int), .fieldLink RX6 19 "GobRow$Order" "count" "I", .fieldLink RX6 9 "GobRow$Order" "sections" "[I", .fieldLink RX6 15 "GobRow$Order" "turnAt" "I"] ++ wsX90 ++ wsX00 ++ wsX60 ++ wsX30)
def wsX10_init_r1 : List Cond := [Cond.methodLink RX10 1 objectInit, Cond.instanceMethod objectInit, Cond.code objectInit ⟨#[0xb1]⟩ 1 none, Cond.arrayClass .int, Cond.fieldLink RX10 7 "GobRowModel" "onAt" "[I", Cond.fieldLink RX10 13 "GobRowModel" "offAt" "[I", Cond.fieldLink RX10 16 "GobRowModel" "lawKind" "[I", Cond.fieldLink RX10 19 "GobRowModel" "lawA" "[I", Cond.fieldLink RX10 22 "GobRowModel" "lawB" "[I", Cond.fieldLink RX10 25 "GobRowModel" "lawN" "[I", Cond.fieldLink RX10 28 "GobRowModel" "pace" "I", Cond.fieldLink RX10 32 "GobRowModel" "knotMany" "[I", Cond.fieldLink RX10 35 "GobRowModel" "knotDegree" "[I", Cond.fieldLink RX10 38 "GobRowModel" "knotPlace" "[I", Cond.fieldLink RX10 41 "GobRowModel" "toldDegree" "[I", Cond.fieldLink RX10 44 "GobRowModel" "toldPlace" "[I", Cond.fieldLink RX10 47 "GobRowModel" "runs" "I", Cond.fieldLink RX10 50 "GobRowModel" "order" "[I", Cond.fieldLink RX10 53 "GobRowModel" "jobOf" "[I", Cond.fieldLink RX10 56 "GobRowModel" "mouldOf" "[I", Cond.fieldLink RX10 59 "GobRowModel" "aimOf" "[I", Cond.fieldLink RX10 62 "GobRowModel" "colourOf" "[I", Cond.fieldLink RX10 65 "GobRowModel" "uses" "[I", Cond.fieldLink RX10 68 "GobRowModel" "dust" "[I"]
def wsX10_init_r2 : List Cond := [Cond.arrayClass .boolean, Cond.fieldLink RX10 71 "GobRowModel" "isPulled" "[Z", Cond.fieldLink RX10 75 "GobRowModel" "goodOf" "[I", Cond.fieldLink RX10 78 "GobRowModel" "badOf" "[I", Cond.fieldLink RX10 81 "GobRowModel" "tube" "I", Cond.fieldLink RX10 84 "GobRowModel" "lasts" "I", Cond.fieldLink RX10 87 "GobRowModel" "number" "[I", Cond.fieldLink RX10 90 "GobRowModel" "section" "[I", Cond.fieldLink RX10 93 "GobRowModel" "mould" "[I", Cond.fieldLink RX10 96 "GobRowModel" "job" "[I", Cond.fieldLink RX10 99 "GobRowModel" "weight" "[I", Cond.fieldLink RX10 102 "GobRowModel" "aimThen" "[I", Cond.fieldLink RX10 105 "GobRowModel" "reason" "[I", Cond.fieldLink RX10 108 "GobRowModel" "judged" "[I", Cond.fieldLink RX10 111 "GobRowModel" "wasDegree" "[I", Cond.fieldLink RX10 114 "GobRowModel" "wasPlace" "[I"]
def wsX10_init : List Cond := .code yX10_init cX10_init 3 none :: ((wsX10_init_r1 ++ wsX10_init_r2) ++ wsX100)
def wsX10_in : List Cond := .code yX10_in cX10_in 3 (some .boolean) :: ([])
def wsX10_isSection : List Cond := .code yX10_isSection cX10_isSection 1 (some .boolean) :: ([.methodLink RX10 117 yX10_in, .static yX10_in, .initialized RX10, .code yX10_in cX10_in 3 (some .boolean)])
def wsX10_isAct : List Cond := .code yX10_isAct cX10_isAct 1 (some .boolean) :: ([.methodLink RX10 117 yX10_in, .static yX10_in, .initialized RX10, .code yX10_in cX10_in 3 (some .boolean)])
def wsX10_isDegree : List Cond := .code yX10_isDegree cX10_isDegree 1 (some .boolean) :: ([.methodLink RX10 117 yX10_in, .static yX10_in, .initialized RX10, .code yX10_in cX10_in 3 (some .boolean)])
def wsX10_isArm : List Cond := .code yX10_isArm cX10_isArm 1 (some .boolean) :: ([.methodLink RX10 117 yX10_in, .static yX10_in, .initialized RX10, .code yX10_in cX10_in 3 (some .boolean)])
def wsX10_isMould : List Cond := .code yX10_isMould cX10_isMould 1 (some .boolean) :: ([.methodLink RX10 117 yX10_in, .static yX10_in, .initialized RX10, .code yX10_in cX10_in 3 (some .boolean)])
def wsX10_isJob : List Cond := .code yX10_isJob cX10_isJob 1 (some .boolean) :: ([.methodLink RX10 117 yX10_in, .static yX10_in, .initialized RX10, .code yX10_in cX10_in 3 (some .boolean)])
def wsX10_lengthOf : List Cond := .code yX10_lengthOf cX10_lengthOf 3 (some .int) :: ([.fieldLink RX10 13 "GobRowModel" "offAt" "[I", .fieldLink RX10 7 "GobRowModel" "onAt" "[I"] ++ wsX100)
def wsX10_isDone : List Cond := .code yX10_isDone cX10_isDone 4 (some .boolean) :: ([.fieldLink RX10 7 "GobRowModel" "onAt" "[I", .methodLink RX10 121 yX10_lengthOf, .instanceMethod yX10_lengthOf, .selects RX10 yX10_lengthOf yX10_lengthOf, .initialized RX10, .code yX10_lengthOf cX10_lengthOf 3 (some .int), .fieldLink RX10 13 "GobRowModel" "offAt" "[I"] ++ wsX100)
def wsX10_keeps : List Cond := .code yX10_keeps cX10_keeps 11 (some .boolean) :: ([.fieldLink RX10 19 "GobRowModel" "lawA" "[I", .fieldLink RX10 22 "GobRowModel" "lawB" "[I", .fieldLink RX10 25 "GobRowModel" "lawN" "[I", .fieldLink RX10 16 "GobRowModel" "lawKind" "[I", .fieldLink RX10 7 "GobRowModel" "onAt" "[I", .fieldLink RX10 13 "GobRowModel" "offAt" "[I", .methodLink RX10 121 yX10_lengthOf, .instanceMethod yX10_lengthOf, .selects RX10 yX10_lengthOf yX10_lengthOf, .initialized RX10, .code yX10_lengthOf cX10_lengthOf 3 (some .int), .methodLink RX10 125 yX10_isDone, .instanceMethod yX10_isDone, .selects RX10 yX10_isDone yX10_isDone, .code yX10_isDone cX10_isDone 4 (some .boolean)] ++ wsX100)
def wsX10_brokenBy : List Cond := .code yX10_brokenBy cX10_brokenBy 3 (some .int) :: ([.fieldLink RX10 128 "GobRowModel" "laws" "I", .fieldLink RX10 28 "GobRowModel" "pace" "I", .methodLink RX10 131 yX10_keeps, .instanceMethod yX10_keeps, .selects RX10 yX10_keeps yX10_keeps, .initialized RX10, .code yX10_keeps cX10_keeps 11 (some .boolean), .fieldLink RX10 19 "GobRowModel" "lawA" "[I", .fieldLink RX10 22 "GobRowModel" "lawB" "[I", .fieldLink RX10 25 "GobRowModel" "lawN" "[I", .fieldLink RX10 16 "GobRowModel" "lawKind" "[I", .fieldLink RX10 7 "GobRowModel" "onAt" "[I", .fieldLink RX10 13 "GobRowModel" "offAt" "[I", .methodLink RX10 121 yX10_lengthOf, .instanceMethod yX10_lengthOf, .selects RX10 yX10_lengthOf yX10_lengthOf, .code yX10_lengthOf cX10_lengthOf 3 (some .int), .methodLink RX10 125 yX10_isDone, .instanceMethod yX10_isDone, .selects RX10 yX10_isDone yX10_isDone, .code yX10_isDone cX10_isDone 4 (some .boolean)] ++ wsX100)
def wsX10_brokenAt : List Cond := .code yX10_brokenAt cX10_brokenAt 4 (some .int) :: ([.fieldLink RX10 128 "GobRowModel" "laws" "I", .methodLink RX10 131 yX10_keeps, .instanceMethod yX10_keeps, .selects RX10 yX10_keeps yX10_keeps, .initialized RX10, .code yX10_keeps cX10_keeps 11 (some .boolean), .fieldLink RX10 19 "GobRowModel" "lawA" "[I", .fieldLink RX10 22 "GobRowModel" "lawB" "[I", .fieldLink RX10 25 "GobRowModel" "lawN" "[I", .fieldLink RX10 16 "GobRowModel" "lawKind" "[I", .fieldLink RX10 7 "GobRowModel" "onAt" "[I", .fieldLink RX10 13 "GobRowModel" "offAt" "[I", .methodLink RX10 121 yX10_lengthOf, .instanceMethod yX10_lengthOf, .selects RX10 yX10_lengthOf yX10_lengthOf, .code yX10_lengthOf cX10_lengthOf 3 (some .int), .methodLink RX10 125 yX10_isDone, .instanceMethod yX10_isDone, .selects RX10 yX10_isDone yX10_isDone, .code yX10_isDone cX10_isDone 4 (some .boolean)] ++ wsX100)
def wsX10_maySet : List Cond := .code yX10_maySet cX10_maySet 5 (some .boolean) :: ([.methodLink RX10 134 yX10_isSection, .static yX10_isSection, .initialized RX10, .code yX10_isSection cX10_isSection 1 (some .boolean), .methodLink RX10 117 yX10_in, .static yX10_in, .code yX10_in cX10_in 3 (some .boolean), .methodLink RX10 138 yX10_isAct, .static yX10_isAct, .code yX10_isAct cX10_isAct 1 (some .boolean), .methodLink RX10 141 yX10_isDegree, .static yX10_isDegree, .code yX10_isDegree cX10_isDegree 1 (some .boolean)])
def wsX10_set_r1 : List Cond := [Cond.fieldLink RX10 7 "GobRowModel" "onAt" "[I", Cond.fieldLink RX10 13 "GobRowModel" "offAt" "[I", Cond.methodLink RX10 144 yX10_maySet, Cond.instanceMethod yX10_maySet, Cond.selects RX10 yX10_maySet yX10_maySet, Cond.initialized RX10, Cond.code yX10_maySet cX10_maySet 5 (some .boolean), Cond.methodLink RX10 134 yX10_isSection, Cond.static yX10_isSection, Cond.code yX10_isSection cX10_isSection 1 (some .boolean), Cond.methodLink RX10 117 yX10_in, Cond.static yX10_in, Cond.code yX10_in cX10_in 3 (some .boolean), Cond.methodLink RX10 138 yX10_isAct, Cond.static yX10_isAct, Cond.code yX10_isAct cX10_isAct 1 (some .boolean), Cond.methodLink RX10 141 yX10_isDegree, Cond.static yX10_isDegree, Cond.code yX10_isDegree cX10_isDegree 1 (some .boolean), Cond.methodLink RX10 148 yX10_brokenBy, Cond.instanceMethod yX10_brokenBy, Cond.selects RX10 yX10_brokenBy yX10_brokenBy, Cond.code yX10_brokenBy cX10_brokenBy 3 (some .int), Cond.fieldLink RX10 128 "GobRowModel" "laws" "I"]
def wsX10_set_r2 : List Cond := [Cond.fieldLink RX10 28 "GobRowModel" "pace" "I", Cond.methodLink RX10 131 yX10_keeps, Cond.instanceMethod yX10_keeps, Cond.selects RX10 yX10_keeps yX10_keeps, Cond.code yX10_keeps cX10_keeps 11 (some .boolean), Cond.fieldLink RX10 19 "GobRowModel" "lawA" "[I", Cond.fieldLink RX10 22 "GobRowModel" "lawB" "[I", Cond.fieldLink RX10 25 "GobRowModel" "lawN" "[I", Cond.fieldLink RX10 16 "GobRowModel" "lawKind" "[I", Cond.methodLink RX10 121 yX10_lengthOf, Cond.instanceMethod yX10_lengthOf, Cond.selects RX10 yX10_lengthOf yX10_lengthOf, Cond.code yX10_lengthOf cX10_lengthOf 3 (some .int), Cond.methodLink RX10 125 yX10_isDone, Cond.instanceMethod yX10_isDone, Cond.selects RX10 yX10_isDone yX10_isDone, Cond.code yX10_isDone cX10_isDone 4 (some .boolean)]
def wsX10_set : List Cond := .code yX10_set cX10_set 9 (some .int) :: ((wsX10_set_r1 ++ wsX10_set_r2) ++ wsX100)
def wsX10_would_r1 : List Cond := [Cond.fieldLink RX10 7 "GobRowModel" "onAt" "[I", Cond.fieldLink RX10 13 "GobRowModel" "offAt" "[I", Cond.methodLink RX10 144 yX10_maySet, Cond.instanceMethod yX10_maySet, Cond.selects RX10 yX10_maySet yX10_maySet, Cond.initialized RX10, Cond.code yX10_maySet cX10_maySet 5 (some .boolean), Cond.methodLink RX10 134 yX10_isSection, Cond.static yX10_isSection, Cond.code yX10_isSection cX10_isSection 1 (some .boolean), Cond.methodLink RX10 117 yX10_in, Cond.static yX10_in, Cond.code yX10_in cX10_in 3 (some .boolean), Cond.methodLink RX10 138 yX10_isAct, Cond.static yX10_isAct, Cond.code yX10_isAct cX10_isAct 1 (some .boolean), Cond.methodLink RX10 141 yX10_isDegree, Cond.static yX10_isDegree, Cond.code yX10_isDegree cX10_isDegree 1 (some .boolean), Cond.methodLink RX10 148 yX10_brokenBy, Cond.instanceMethod yX10_brokenBy, Cond.selects RX10 yX10_brokenBy yX10_brokenBy, Cond.code yX10_brokenBy cX10_brokenBy 3 (some .int), Cond.fieldLink RX10 128 "GobRowModel" "laws" "I"]
def wsX10_would_r2 : List Cond := [Cond.fieldLink RX10 28 "GobRowModel" "pace" "I", Cond.methodLink RX10 131 yX10_keeps, Cond.instanceMethod yX10_keeps, Cond.selects RX10 yX10_keeps yX10_keeps, Cond.code yX10_keeps cX10_keeps 11 (some .boolean), Cond.fieldLink RX10 19 "GobRowModel" "lawA" "[I", Cond.fieldLink RX10 22 "GobRowModel" "lawB" "[I", Cond.fieldLink RX10 25 "GobRowModel" "lawN" "[I", Cond.fieldLink RX10 16 "GobRowModel" "lawKind" "[I", Cond.methodLink RX10 121 yX10_lengthOf, Cond.instanceMethod yX10_lengthOf, Cond.selects RX10 yX10_lengthOf yX10_lengthOf, Cond.code yX10_lengthOf cX10_lengthOf 3 (some .int), Cond.methodLink RX10 125 yX10_isDone, Cond.instanceMethod yX10_isDone, Cond.selects RX10 yX10_isDone yX10_isDone, Cond.code yX10_isDone cX10_isDone 4 (some .boolean)]
def wsX10_would : List Cond := .code yX10_would cX10_would 9 (some .int) :: ((wsX10_would_r1 ++ wsX10_would_r2) ++ wsX100)
def wsX10_turn : List Cond := .code yX10_turn cX10_turn 4 (some .int) :: ([.fieldLink RX10 7 "GobRowModel" "onAt" "[I", .fieldLink RX10 13 "GobRowModel" "offAt" "[I", .methodLink RX10 134 yX10_isSection, .static yX10_isSection, .initialized RX10, .code yX10_isSection cX10_isSection 1 (some .boolean), .methodLink RX10 117 yX10_in, .static yX10_in, .code yX10_in cX10_in 3 (some .boolean)] ++ wsX100)
def wsX10_copy : List Cond := .code yX10_copy cX10_copy 4 (some .int) :: ([.fieldLink RX10 7 "GobRowModel" "onAt" "[I", .fieldLink RX10 13 "GobRowModel" "offAt" "[I", .methodLink RX10 134 yX10_isSection, .static yX10_isSection, .initialized RX10, .code yX10_isSection cX10_isSection 1 (some .boolean), .methodLink RX10 117 yX10_in, .static yX10_in, .code yX10_in cX10_in 3 (some .boolean)] ++ wsX100)
def wsX10_law_r1 : List Cond := [Cond.constant RX10 152 (60000), Cond.fieldLink RX10 128 "GobRowModel" "laws" "I", Cond.fieldLink RX10 16 "GobRowModel" "lawKind" "[I", Cond.fieldLink RX10 19 "GobRowModel" "lawA" "[I", Cond.fieldLink RX10 22 "GobRowModel" "lawB" "[I", Cond.fieldLink RX10 25 "GobRowModel" "lawN" "[I", Cond.fieldLink RX10 28 "GobRowModel" "pace" "I", Cond.methodLink RX10 117 yX10_in, Cond.static yX10_in, Cond.initialized RX10, Cond.code yX10_in cX10_in 3 (some .boolean), Cond.methodLink RX10 138 yX10_isAct, Cond.static yX10_isAct, Cond.code yX10_isAct cX10_isAct 1 (some .boolean), Cond.methodLink RX10 131 yX10_keeps, Cond.instanceMethod yX10_keeps, Cond.selects RX10 yX10_keeps yX10_keeps, Cond.code yX10_keeps cX10_keeps 11 (some .boolean), Cond.fieldLink RX10 7 "GobRowModel" "onAt" "[I", Cond.fieldLink RX10 13 "GobRowModel" "offAt" "[I", Cond.methodLink RX10 121 yX10_lengthOf, Cond.instanceMethod yX10_lengthOf, Cond.selects RX10 yX10_lengthOf yX10_lengthOf, Cond.code yX10_lengthOf cX10_lengthOf 3 (some .int)]
def wsX10_law_r2 : List Cond := [Cond.methodLink RX10 125 yX10_isDone, Cond.instanceMethod yX10_isDone, Cond.selects RX10 yX10_isDone yX10_isDone, Cond.code yX10_isDone cX10_isDone 4 (some .boolean)]
def wsX10_law : List Cond := .code yX10_law cX10_law 6 (some .int) :: ((wsX10_law_r1 ++ wsX10_law_r2) ++ wsX100)
def wsX10_repeal : List Cond := .code yX10_repeal cX10_repeal 1 (some .int) :: ([.fieldLink RX10 128 "GobRowModel" "laws" "I"] ++ wsX100)
def wsX10_pace_r1 : List Cond := [Cond.fieldLink RX10 28 "GobRowModel" "pace" "I", Cond.methodLink RX10 117 yX10_in, Cond.static yX10_in, Cond.initialized RX10, Cond.code yX10_in cX10_in 3 (some .boolean), Cond.methodLink RX10 153 yX10_brokenAt, Cond.instanceMethod yX10_brokenAt, Cond.selects RX10 yX10_brokenAt yX10_brokenAt, Cond.code yX10_brokenAt cX10_brokenAt 4 (some .int), Cond.fieldLink RX10 128 "GobRowModel" "laws" "I", Cond.methodLink RX10 131 yX10_keeps, Cond.instanceMethod yX10_keeps, Cond.selects RX10 yX10_keeps yX10_keeps, Cond.code yX10_keeps cX10_keeps 11 (some .boolean), Cond.fieldLink RX10 19 "GobRowModel" "lawA" "[I", Cond.fieldLink RX10 22 "GobRowModel" "lawB" "[I", Cond.fieldLink RX10 25 "GobRowModel" "lawN" "[I", Cond.fieldLink RX10 16 "GobRowModel" "lawKind" "[I", Cond.fieldLink RX10 7 "GobRowModel" "onAt" "[I", Cond.fieldLink RX10 13 "GobRowModel" "offAt" "[I", Cond.methodLink RX10 121 yX10_lengthOf, Cond.instanceMethod yX10_lengthOf, Cond.selects RX10 yX10_lengthOf yX10_lengthOf, Cond.code yX10_lengthOf cX10_lengthOf 3 (some .int)]
def wsX10_pace_r2 : List Cond := [Cond.methodLink RX10 125 yX10_isDone, Cond.instanceMethod yX10_isDone, Cond.selects RX10 yX10_isDone yX10_isDone, Cond.code yX10_isDone cX10_isDone 4 (some .boolean)]
def wsX10_pace : List Cond := .code yX10_pace cX10_pace 4 (some .int) :: ((wsX10_pace_r1 ++ wsX10_pace_r2) ++ wsX100)
def wsX10_fastest : List Cond := .code yX10_fastest cX10_fastest 2 (some .int) :: ([.methodLink RX10 153 yX10_brokenAt, .instanceMethod yX10_brokenAt, .selects RX10 yX10_brokenAt yX10_brokenAt, .initialized RX10, .code yX10_brokenAt cX10_brokenAt 4 (some .int), .fieldLink RX10 128 "GobRowModel" "laws" "I", .methodLink RX10 131 yX10_keeps, .instanceMethod yX10_keeps, .selects RX10 yX10_keeps yX10_keeps, .code yX10_keeps cX10_keeps 11 (some .boolean), .fieldLink RX10 19 "GobRowModel" "lawA" "[I", .fieldLink RX10 22 "GobRowModel" "lawB" "[I", .fieldLink RX10 25 "GobRowModel" "lawN" "[I", .fieldLink RX10 16 "GobRowModel" "lawKind" "[I", .fieldLink RX10 7 "GobRowModel" "onAt" "[I", .fieldLink RX10 13 "GobRowModel" "offAt" "[I", .methodLink RX10 121 yX10_lengthOf, .instanceMethod yX10_lengthOf, .selects RX10 yX10_lengthOf yX10_lengthOf, .code yX10_lengthOf cX10_lengthOf 3 (some .int), .methodLink RX10 125 yX10_isDone, .instanceMethod yX10_isDone, .selects RX10 yX10_isDone yX10_isDone, .code yX10_isDone cX10_isDone 4 (some .boolean)] ++ wsX100)
def wsX10_act : List Cond := .code yX10_act cX10_act 5 (some .int) :: ([.fieldLink RX10 7 "GobRowModel" "onAt" "[I", .fieldLink RX10 13 "GobRowModel" "offAt" "[I", .methodLink RX10 134 yX10_isSection, .static yX10_isSection, .initialized RX10, .code yX10_isSection cX10_isSection 1 (some .boolean), .methodLink RX10 117 yX10_in, .static yX10_in, .code yX10_in cX10_in 3 (some .boolean), .methodLink RX10 138 yX10_isAct, .static yX10_isAct, .code yX10_isAct cX10_isAct 1 (some .boolean), .methodLink RX10 141 yX10_isDegree, .static yX10_isDegree, .code yX10_isDegree cX10_isDegree 1 (some .boolean), .methodLink RX10 121 yX10_lengthOf, .instanceMethod yX10_lengthOf, .selects RX10 yX10_lengthOf yX10_lengthOf, .code yX10_lengthOf cX10_lengthOf 3 (some .int), .methodLink RX10 125 yX10_isDone, .instanceMethod yX10_isDone, .selects RX10 yX10_isDone yX10_isDone, .code yX10_isDone cX10_isDone 4 (some .boolean)] ++ wsX100)
def wsX10_find : List Cond := .code yX10_find cX10_find 10 none :: ([.fieldLink RX10 32 "GobRowModel" "knotMany" "[I", .fieldLink RX10 35 "GobRowModel" "knotDegree" "[I", .fieldLink RX10 38 "GobRowModel" "knotPlace" "[I", .fieldLink RX10 156 "GobRowModel" "above" "I", .fieldLink RX10 159 "GobRowModel" "below" "I"] ++ wsX100)
def wsX10_areClear : List Cond := .code yX10_areClear cX10_areClear 8 (some .boolean) :: ([.fieldLink RX10 156 "GobRowModel" "above" "I", .constantLong RX10 166 (50), .fieldLink RX10 159 "GobRowModel" "below" "I", .methodLink RX10 162 yX10_find, .instanceMethod yX10_find, .selects RX10 yX10_find yX10_find, .initialized RX10, .code yX10_find cX10_find 10 none, .fieldLink RX10 32 "GobRowModel" "knotMany" "[I", .fieldLink RX10 35 "GobRowModel" "knotDegree" "[I", .fieldLink RX10 38 "GobRowModel" "knotPlace" "[I"] ++ wsX100)
def wsX10_arm_r1 : List Cond := [Cond.fieldLink RX10 171 "GobRowModel" "told" "I", Cond.fieldLink RX10 32 "GobRowModel" "knotMany" "[I", Cond.fieldLink RX10 111 "GobRowModel" "wasDegree" "[I", Cond.fieldLink RX10 35 "GobRowModel" "knotDegree" "[I", Cond.fieldLink RX10 114 "GobRowModel" "wasPlace" "[I", Cond.fieldLink RX10 38 "GobRowModel" "knotPlace" "[I", Cond.fieldLink RX10 41 "GobRowModel" "toldDegree" "[I", Cond.fieldLink RX10 44 "GobRowModel" "toldPlace" "[I", Cond.methodLink RX10 168 yX10_isArm, Cond.static yX10_isArm, Cond.initialized RX10, Cond.code yX10_isArm cX10_isArm 1 (some .boolean), Cond.methodLink RX10 117 yX10_in, Cond.static yX10_in, Cond.code yX10_in cX10_in 3 (some .boolean), Cond.methodLink RX10 174 yX10_areClear, Cond.instanceMethod yX10_areClear, Cond.selects RX10 yX10_areClear yX10_areClear, Cond.code yX10_areClear cX10_areClear 8 (some .boolean), Cond.fieldLink RX10 156 "GobRowModel" "above" "I", Cond.constantLong RX10 166 (50), Cond.fieldLink RX10 159 "GobRowModel" "below" "I", Cond.methodLink RX10 162 yX10_find, Cond.instanceMethod yX10_find]
def wsX10_arm_r2 : List Cond := [Cond.selects RX10 yX10_find yX10_find, Cond.code yX10_find cX10_find 10 none]
def wsX10_arm : List Cond := .code yX10_arm cX10_arm 4 (some .int) :: ((wsX10_arm_r1 ++ wsX10_arm_r2) ++ wsX100)
def wsX10_knot : List Cond := .code yX10_knot cX10_knot 3 (some .int) :: ([.fieldLink RX10 171 "GobRowModel" "told" "I", .fieldLink RX10 41 "GobRowModel" "toldDegree" "[I", .fieldLink RX10 44 "GobRowModel" "toldPlace" "[I", .methodLink RX10 141 yX10_isDegree, .static yX10_isDegree, .initialized RX10, .code yX10_isDegree cX10_isDegree 1 (some .boolean), .methodLink RX10 117 yX10_in, .static yX10_in, .code yX10_in cX10_in 3 (some .boolean)] ++ wsX100)
def wsX10_forget : List Cond := .code yX10_forget cX10_forget 2 (some .int) :: ([.fieldLink RX10 171 "GobRowModel" "told" "I"] ++ wsX100)
def wsX10_common : List Cond := .code yX10_common cX10_common 5 (some .int) :: ([])
def wsX10_place : List Cond := .code yX10_place cX10_place 5 (some .int) :: ([.fieldLink RX10 156 "GobRowModel" "above" "I", .fieldLink RX10 159 "GobRowModel" "below" "I", .methodLink RX10 168 yX10_isArm, .static yX10_isArm, .initialized RX10, .code yX10_isArm cX10_isArm 1 (some .boolean), .methodLink RX10 117 yX10_in, .static yX10_in, .code yX10_in cX10_in 3 (some .boolean), .methodLink RX10 141 yX10_isDegree, .static yX10_isDegree, .code yX10_isDegree cX10_isDegree 1 (some .boolean), .methodLink RX10 162 yX10_find, .instanceMethod yX10_find, .selects RX10 yX10_find yX10_find, .code yX10_find cX10_find 10 none, .fieldLink RX10 32 "GobRowModel" "knotMany" "[I", .fieldLink RX10 35 "GobRowModel" "knotDegree" "[I", .fieldLink RX10 38 "GobRowModel" "knotPlace" "[I", .methodLink RX10 178 yX10_common, .static yX10_common, .code yX10_common cX10_common 5 (some .int)] ++ wsX100)
def wsX10_nearest : List Cond := .code yX10_nearest cX10_nearest 17 (some .int) :: ([.fieldLink RX10 156 "GobRowModel" "above" "I", .fieldLink RX10 159 "GobRowModel" "below" "I", .methodLink RX10 168 yX10_isArm, .static yX10_isArm, .initialized RX10, .code yX10_isArm cX10_isArm 1 (some .boolean), .methodLink RX10 117 yX10_in, .static yX10_in, .code yX10_in cX10_in 3 (some .boolean), .methodLink RX10 162 yX10_find, .instanceMethod yX10_find, .selects RX10 yX10_find yX10_find, .code yX10_find cX10_find 10 none, .fieldLink RX10 32 "GobRowModel" "knotMany" "[I", .fieldLink RX10 35 "GobRowModel" "knotDegree" "[I", .fieldLink RX10 38 "GobRowModel" "knotPlace" "[I"] ++ wsX100)
def wsX10_placeInOrder : List Cond := .code yX10_placeInOrder cX10_placeInOrder 3 (some .int) :: ([.fieldLink RX10 47 "GobRowModel" "runs" "I", .fieldLink RX10 50 "GobRowModel" "order" "[I"] ++ wsX100)
def wsX10_stop : List Cond := .code yX10_stop cX10_stop 4 (some .int) :: ([.fieldLink RX10 47 "GobRowModel" "runs" "I", .fieldLink RX10 50 "GobRowModel" "order" "[I", .fieldLink RX10 184 "GobRowModel" "turn" "I", .methodLink RX10 134 yX10_isSection, .static yX10_isSection, .initialized RX10, .code yX10_isSection cX10_isSection 1 (some .boolean), .methodLink RX10 117 yX10_in, .static yX10_in, .code yX10_in cX10_in 3 (some .boolean), .methodLink RX10 181 yX10_placeInOrder, .instanceMethod yX10_placeInOrder, .selects RX10 yX10_placeInOrder yX10_placeInOrder, .code yX10_placeInOrder cX10_placeInOrder 3 (some .int)] ++ wsX100)
def wsX10_start : List Cond := .code yX10_start cX10_start 2 (some .int) :: ([.fieldLink RX10 50 "GobRowModel" "order" "[I", .fieldLink RX10 47 "GobRowModel" "runs" "I", .methodLink RX10 134 yX10_isSection, .static yX10_isSection, .initialized RX10, .code yX10_isSection cX10_isSection 1 (some .boolean), .methodLink RX10 117 yX10_in, .static yX10_in, .code yX10_in cX10_in 3 (some .boolean), .methodLink RX10 181 yX10_placeInOrder, .instanceMethod yX10_placeInOrder, .selects RX10 yX10_placeInOrder yX10_placeInOrder, .code yX10_placeInOrder cX10_placeInOrder 3 (some .int)] ++ wsX100)
def wsX10_job : List Cond := .code yX10_job cX10_job 4 (some .int) :: ([.fieldLink RX10 53 "GobRowModel" "jobOf" "[I", .methodLink RX10 134 yX10_isSection, .static yX10_isSection, .initialized RX10, .code yX10_isSection cX10_isSection 1 (some .boolean), .methodLink RX10 117 yX10_in, .static yX10_in, .code yX10_in cX10_in 3 (some .boolean), .methodLink RX10 187 yX10_isJob, .static yX10_isJob, .code yX10_isJob cX10_isJob 1 (some .boolean)] ++ wsX100)
def wsX10_aim : List Cond := .code yX10_aim cX10_aim 4 (some .int) :: ([.fieldLink RX10 59 "GobRowModel" "aimOf" "[I", .fieldLink RX10 62 "GobRowModel" "colourOf" "[I", .methodLink RX10 187 yX10_isJob, .static yX10_isJob, .initialized RX10, .code yX10_isJob cX10_isJob 1 (some .boolean), .methodLink RX10 117 yX10_in, .static yX10_in, .code yX10_in cX10_in 3 (some .boolean)] ++ wsX100)
def wsX10_glass : List Cond := .code yX10_glass cX10_glass 3 (some .int) :: ([.fieldLink RX10 190 "GobRowModel" "colour" "I", .fieldLink RX10 193 "GobRowModel" "mixed" "I", .methodLink RX10 117 yX10_in, .static yX10_in, .initialized RX10, .code yX10_in cX10_in 3 (some .boolean)] ++ wsX100)
def wsX10_sectionOf : List Cond := .code yX10_sectionOf cX10_sectionOf 3 (some .int) :: ([.fieldLink RX10 56 "GobRowModel" "mouldOf" "[I"] ++ wsX100)
def wsX10_mould : List Cond := .code yX10_mould cX10_mould 4 (some .int) :: ([.fieldLink RX10 56 "GobRowModel" "mouldOf" "[I", .methodLink RX10 134 yX10_isSection, .static yX10_isSection, .initialized RX10, .code yX10_isSection cX10_isSection 1 (some .boolean), .methodLink RX10 117 yX10_in, .static yX10_in, .code yX10_in cX10_in 3 (some .boolean), .methodLink RX10 196 yX10_isMould, .static yX10_isMould, .code yX10_isMould cX10_isMould 1 (some .boolean), .methodLink RX10 199 yX10_sectionOf, .instanceMethod yX10_sectionOf, .selects RX10 yX10_sectionOf yX10_sectionOf, .code yX10_sectionOf cX10_sectionOf 3 (some .int)] ++ wsX100)
def wsX10_swab : List Cond := .code yX10_swab cX10_swab 3 (some .int) :: ([.fieldLink RX10 68 "GobRowModel" "dust" "[I", .methodLink RX10 196 yX10_isMould, .static yX10_isMould, .initialized RX10, .code yX10_isMould cX10_isMould 1 (some .boolean), .methodLink RX10 117 yX10_in, .static yX10_in, .code yX10_in cX10_in 3 (some .boolean)] ++ wsX100)
def wsX10_repair : List Cond := .code yX10_repair cX10_repair 3 (some .int) :: ([.fieldLink RX10 65 "GobRowModel" "uses" "[I", .fieldLink RX10 68 "GobRowModel" "dust" "[I", .fieldLink RX10 71 "GobRowModel" "isPulled" "[Z", .methodLink RX10 196 yX10_isMould, .static yX10_isMould, .initialized RX10, .code yX10_isMould cX10_isMould 1 (some .boolean), .methodLink RX10 117 yX10_in, .static yX10_in, .code yX10_in cX10_in 3 (some .boolean)] ++ wsX100)
def wsX10_pull : List Cond := .code yX10_pull cX10_pull 4 (some .int) :: ([.fieldLink RX10 71 "GobRowModel" "isPulled" "[Z", .methodLink RX10 196 yX10_isMould, .static yX10_isMould, .initialized RX10, .code yX10_isMould cX10_isMould 1 (some .boolean), .methodLink RX10 117 yX10_in, .static yX10_in, .code yX10_in cX10_in 3 (some .boolean)] ++ wsX100)
def wsX10_rule : List Cond := .code yX10_rule cX10_rule 4 (some .int) :: ([.fieldLink RX10 202 "GobRowModel" "drift" "I", .fieldLink RX10 84 "GobRowModel" "lasts" "I", .methodLink RX10 117 yX10_in, .static yX10_in, .initialized RX10, .code yX10_in cX10_in 3 (some .boolean)] ++ wsX100)
def wsX10_book : List Cond := .code yX10_book cX10_book 3 (some .int) :: ([.fieldLink RX10 65 "GobRowModel" "uses" "[I", .fieldLink RX10 68 "GobRowModel" "dust" "[I", .fieldLink RX10 71 "GobRowModel" "isPulled" "[Z", .fieldLink RX10 75 "GobRowModel" "goodOf" "[I", .fieldLink RX10 78 "GobRowModel" "badOf" "[I", .methodLink RX10 196 yX10_isMould, .static yX10_isMould, .initialized RX10, .code yX10_isMould cX10_isMould 1 (some .boolean), .methodLink RX10 117 yX10_in, .static yX10_in, .code yX10_in cX10_in 3 (some .boolean), .methodLink RX10 199 yX10_sectionOf, .instanceMethod yX10_sectionOf, .selects RX10 yX10_sectionOf yX10_sectionOf, .code yX10_sectionOf cX10_sectionOf 3 (some .int), .fieldLink RX10 56 "GobRowModel" "mouldOf" "[I"] ++ wsX100)
def wsX10_judgeOf : List Cond := .code yX10_judgeOf cX10_judgeOf 3 (some .int) :: ([.fieldLink RX10 105 "GobRowModel" "reason" "[I", .fieldLink RX10 99 "GobRowModel" "weight" "[I", .fieldLink RX10 102 "GobRowModel" "aimThen" "[I", .fieldLink RX10 71 "GobRowModel" "isPulled" "[Z", .fieldLink RX10 93 "GobRowModel" "mould" "[I"] ++ wsX100)
def wsX10_comeOff : List Cond := .code yX10_comeOff cX10_comeOff 3 none :: ([.fieldLink RX10 108 "GobRowModel" "judged" "[I", .fieldLink RX10 75 "GobRowModel" "goodOf" "[I", .fieldLink RX10 93 "GobRowModel" "mould" "[I", .fieldLink RX10 78 "GobRowModel" "badOf" "[I", .fieldLink RX10 87 "GobRowModel" "number" "[I", .fieldLink RX10 81 "GobRowModel" "tube" "I", .fieldLink RX10 102 "GobRowModel" "aimThen" "[I", .fieldLink RX10 99 "GobRowModel" "weight" "[I", .fieldLink RX10 208 "GobRowModel" "belt" "I", .fieldLink RX10 90 "GobRowModel" "section" "[I", .fieldLink RX10 96 "GobRowModel" "job" "[I", .fieldLink RX10 105 "GobRowModel" "reason" "[I", .methodLink RX10 205 yX10_judgeOf, .instanceMethod yX10_judgeOf, .selects RX10 yX10_judgeOf yX10_judgeOf, .initialized RX10, .code yX10_judgeOf cX10_judgeOf 3 (some .int), .fieldLink RX10 71 "GobRowModel" "isPulled" "[Z"] ++ wsX100)
def wsX10_cutOne : List Cond := .code yX10_cutOne cX10_cutOne 5 none :: ([.fieldLink RX10 50 "GobRowModel" "order" "[I", .fieldLink RX10 184 "GobRowModel" "turn" "I", .fieldLink RX10 56 "GobRowModel" "mouldOf" "[I", .fieldLink RX10 53 "GobRowModel" "jobOf" "[I", .fieldLink RX10 65 "GobRowModel" "uses" "[I", .fieldLink RX10 68 "GobRowModel" "dust" "[I", .fieldLink RX10 208 "GobRowModel" "belt" "I", .fieldLink RX10 87 "GobRowModel" "number" "[I", .fieldLink RX10 211 "GobRowModel" "cuts" "I", .fieldLink RX10 90 "GobRowModel" "section" "[I", .fieldLink RX10 93 "GobRowModel" "mould" "[I", .fieldLink RX10 96 "GobRowModel" "job" "[I", .fieldLink RX10 99 "GobRowModel" "weight" "[I", .fieldLink RX10 81 "GobRowModel" "tube" "I", .fieldLink RX10 202 "GobRowModel" "drift" "I", .fieldLink RX10 59 "GobRowModel" "aimOf" "[I", .fieldLink RX10 102 "GobRowModel" "aimThen" "[I", .fieldLink RX10 105 "GobRowModel" "reason" "[I", .fieldLink RX10 193 "GobRowModel" "mixed" "I", .fieldLink RX10 190 "GobRowModel" "colour" "I", .fieldLink RX10 62 "GobRowModel" "colourOf" "[I", .fieldLink RX10 84 "GobRowModel" "lasts" "I", .fieldLink RX10 47 "GobRowModel" "runs" "I"] ++ wsX100)
def wsX10_cut_r1 : List Cond := [Cond.fieldLink RX10 47 "GobRowModel" "runs" "I", Cond.fieldLink RX10 208 "GobRowModel" "belt" "I", Cond.methodLink RX10 117 yX10_in, Cond.static yX10_in, Cond.initialized RX10, Cond.code yX10_in cX10_in 3 (some .boolean), Cond.methodLink RX10 214 yX10_comeOff, Cond.instanceMethod yX10_comeOff, Cond.selects RX10 yX10_comeOff yX10_comeOff, Cond.code yX10_comeOff cX10_comeOff 3 none, Cond.fieldLink RX10 108 "GobRowModel" "judged" "[I", Cond.fieldLink RX10 75 "GobRowModel" "goodOf" "[I", Cond.fieldLink RX10 93 "GobRowModel" "mould" "[I", Cond.fieldLink RX10 78 "GobRowModel" "badOf" "[I", Cond.fieldLink RX10 87 "GobRowModel" "number" "[I", Cond.fieldLink RX10 81 "GobRowModel" "tube" "I", Cond.fieldLink RX10 102 "GobRowModel" "aimThen" "[I", Cond.fieldLink RX10 99 "GobRowModel" "weight" "[I", Cond.fieldLink RX10 90 "GobRowModel" "section" "[I", Cond.fieldLink RX10 96 "GobRowModel" "job" "[I", Cond.fieldLink RX10 105 "GobRowModel" "reason" "[I", Cond.methodLink RX10 205 yX10_judgeOf, Cond.instanceMethod yX10_judgeOf, Cond.selects RX10 yX10_judgeOf yX10_judgeOf]
def wsX10_cut_r2 : List Cond := [Cond.code yX10_judgeOf cX10_judgeOf 3 (some .int), Cond.fieldLink RX10 71 "GobRowModel" "isPulled" "[Z", Cond.methodLink RX10 217 yX10_cutOne, Cond.instanceMethod yX10_cutOne, Cond.selects RX10 yX10_cutOne yX10_cutOne, Cond.code yX10_cutOne cX10_cutOne 5 none, Cond.fieldLink RX10 50 "GobRowModel" "order" "[I", Cond.fieldLink RX10 184 "GobRowModel" "turn" "I", Cond.fieldLink RX10 56 "GobRowModel" "mouldOf" "[I", Cond.fieldLink RX10 53 "GobRowModel" "jobOf" "[I", Cond.fieldLink RX10 65 "GobRowModel" "uses" "[I", Cond.fieldLink RX10 68 "GobRowModel" "dust" "[I", Cond.fieldLink RX10 211 "GobRowModel" "cuts" "I", Cond.fieldLink RX10 202 "GobRowModel" "drift" "I", Cond.fieldLink RX10 59 "GobRowModel" "aimOf" "[I", Cond.fieldLink RX10 193 "GobRowModel" "mixed" "I", Cond.fieldLink RX10 190 "GobRowModel" "colour" "I", Cond.fieldLink RX10 62 "GobRowModel" "colourOf" "[I", Cond.fieldLink RX10 84 "GobRowModel" "lasts" "I"]
def wsX10_cut : List Cond := .code yX10_cut cX10_cut 4 (some .int) :: ((wsX10_cut_r1 ++ wsX10_cut_r2) ++ wsX100)
def wsX10_drain : List Cond := .code yX10_drain cX10_drain 3 (some .int) :: ([.fieldLink RX10 208 "GobRowModel" "belt" "I", .methodLink RX10 214 yX10_comeOff, .instanceMethod yX10_comeOff, .selects RX10 yX10_comeOff yX10_comeOff, .initialized RX10, .code yX10_comeOff cX10_comeOff 3 none, .fieldLink RX10 108 "GobRowModel" "judged" "[I", .fieldLink RX10 75 "GobRowModel" "goodOf" "[I", .fieldLink RX10 93 "GobRowModel" "mould" "[I", .fieldLink RX10 78 "GobRowModel" "badOf" "[I", .fieldLink RX10 87 "GobRowModel" "number" "[I", .fieldLink RX10 81 "GobRowModel" "tube" "I", .fieldLink RX10 102 "GobRowModel" "aimThen" "[I", .fieldLink RX10 99 "GobRowModel" "weight" "[I", .fieldLink RX10 90 "GobRowModel" "section" "[I", .fieldLink RX10 96 "GobRowModel" "job" "[I", .fieldLink RX10 105 "GobRowModel" "reason" "[I", .methodLink RX10 205 yX10_judgeOf, .instanceMethod yX10_judgeOf, .selects RX10 yX10_judgeOf yX10_judgeOf, .code yX10_judgeOf cX10_judgeOf 3 (some .int), .fieldLink RX10 71 "GobRowModel" "isPulled" "[Z"] ++ wsX100)
def wsX10_bottle : List Cond := .code yX10_bottle cX10_bottle 3 (some .int) :: ([.fieldLink RX10 208 "GobRowModel" "belt" "I", .fieldLink RX10 87 "GobRowModel" "number" "[I", .fieldLink RX10 90 "GobRowModel" "section" "[I", .fieldLink RX10 93 "GobRowModel" "mould" "[I", .fieldLink RX10 96 "GobRowModel" "job" "[I", .fieldLink RX10 99 "GobRowModel" "weight" "[I", .methodLink RX10 117 yX10_in, .static yX10_in, .initialized RX10, .code yX10_in cX10_in 3 (some .boolean), .methodLink RX10 205 yX10_judgeOf, .instanceMethod yX10_judgeOf, .selects RX10 yX10_judgeOf yX10_judgeOf, .code yX10_judgeOf cX10_judgeOf 3 (some .int), .fieldLink RX10 105 "GobRowModel" "reason" "[I", .fieldLink RX10 102 "GobRowModel" "aimThen" "[I", .fieldLink RX10 71 "GobRowModel" "isPulled" "[Z"] ++ wsX100)
def wsX10_many : List Cond := .code yX10_many cX10_many 2 (some .int) :: ([.fieldLink RX10 108 "GobRowModel" "judged" "[I", .fieldLink RX10 211 "GobRowModel" "cuts" "I", .fieldLink RX10 208 "GobRowModel" "belt" "I", .fieldLink RX10 47 "GobRowModel" "runs" "I", .fieldLink RX10 81 "GobRowModel" "tube" "I", .fieldLink RX10 50 "GobRowModel" "order" "[I", .fieldLink RX10 184 "GobRowModel" "turn" "I", .fieldLink RX10 193 "GobRowModel" "mixed" "I", .fieldLink RX10 128 "GobRowModel" "laws" "I", .fieldLink RX10 28 "GobRowModel" "pace" "I", .fieldLink RX10 190 "GobRowModel" "colour" "I", .methodLink RX10 117 yX10_in, .static yX10_in, .initialized RX10, .code yX10_in cX10_in 3 (some .boolean)] ++ wsX100)
def wsJ9_abs_0f7a4 : List Cond := .code yJ9_abs_0f7a4 cJ9_abs_0f7a4 1 (some .int) :: ([])
def wsJ9_max_7cf53 : List Cond := .code yJ9_max_7cf53 cJ9_max_7cf53 2 (some .int) :: ([])
def wsJ9_min_7cf53 : List Cond := .code yJ9_min_7cf53 cJ9_min_7cf53 2 (some .int) :: ([])
def wsL_law_r1 : List Cond := [Cond.classLink RL 7 RX9, Cond.instantiable RX9 15, Cond.initialized RX9, Cond.classLink RL 10 RX10, Cond.instantiable RX10 45, Cond.initialized RX10, Cond.methodLink RL 9 yX9_init, Cond.instanceMethod yX9_init, Cond.code yX9_init cX9_init 2 none, Cond.methodLink RX9 1 objectInit, Cond.instanceMethod objectInit, Cond.code objectInit ⟨#[0xb1]⟩ 1 none, Cond.classLink RX9 7 RX3, Cond.instantiable RX3 5, Cond.initialized RX3, Cond.fieldLink RX9 10 "GobRow" "drums" "LGobRow$Drums;", Cond.classLink RX9 16 RX7, Cond.instantiable RX7 2, Cond.initialized RX7, Cond.fieldLink RX9 19 "GobRow" "rail" "LGobRow$Rail;", Cond.classLink RX9 23 RX6, Cond.instantiable RX6 3, Cond.initialized RX6, Cond.fieldLink RX9 26 "GobRow" "order" "LGobRow$Order;"]
def wsL_law_r2 : List Cond := [Cond.classLink RX9 30 RX5, Cond.instantiable RX5 6, Cond.initialized RX5, Cond.fieldLink RX9 33 "GobRow" "moulds" "LGobRow$Moulds;", Cond.classLink RX9 37 RX0, Cond.instantiable RX0 3, Cond.initialized RX0, Cond.fieldLink RX9 40 "GobRow" "belt" "LGobRow$Belt;", Cond.arrayClass .int, Cond.fieldLink RX9 44 "GobRow" "jobOfSection" "[I", Cond.fieldLink RX9 48 "GobRow" "aimOfJob" "[I", Cond.fieldLink RX9 51 "GobRow" "colourOfJob" "[I", Cond.fieldLink RX9 54 "GobRow" "judged" "[I", Cond.fieldLink RX9 57 "GobRow" "glassColour" "I", Cond.fieldLink RX9 61 "GobRow" "mixed" "I", Cond.fieldLink RX9 64 "GobRow" "tube" "I", Cond.fieldLink RX9 67 "GobRow" "drift" "I", Cond.fieldLink RX9 70 "GobRow" "lasts" "I", Cond.fieldLink RX9 73 "GobRow" "cuts" "I", Cond.methodLink RX9 9 yX3_init, Cond.instanceMethod yX3_init, Cond.code yX3_init cX3_init 2 none, Cond.methodLink RX3 3 objectInit, Cond.classLink RX3 9 RX2]
def wsL_law_r3 : List Cond := [Cond.fieldLink RX3 11 "GobRow$Drums" "rows" "[LGobRow$Drum;", Cond.classLink RX3 17 RX8, Cond.fieldLink RX3 19 "GobRow$Drums" "laws" "[LGobRow$Rule;", Cond.instantiable RX2 2, Cond.initialized RX2, Cond.fieldLink RX3 24 "GobRow$Drums" "trial" "LGobRow$Drum;", Cond.fieldLink RX3 28 "GobRow$Drums" "lawCount" "I", Cond.fieldLink RX3 32 "GobRow$Drums" "turnsAMinute" "I", Cond.instantiable RX8 4, Cond.initialized RX8, Cond.methodLink RX3 23 yX2_init, Cond.instanceMethod yX2_init, Cond.code yX2_init cX2_init 2 none, Cond.methodLink RX2 3 objectInit, Cond.fieldLink RX2 9 "GobRow$Drum" "on" "[I", Cond.fieldLink RX2 15 "GobRow$Drum" "off" "[I", Cond.instanceMethod yX8_init, Cond.code yX8_init cX8_init 1 none, Cond.methodLink RX8 3 objectInit, Cond.fieldLink RX8 9 "GobRow$Rule" "kind" "I", Cond.fieldLink RX8 15 "GobRow$Rule" "a" "I", Cond.fieldLink RX8 18 "GobRow$Rule" "b" "I", Cond.fieldLink RX8 21 "GobRow$Rule" "n" "I", Cond.methodLink RX9 18 yX7_init]
def wsL_law_r4 : List Cond := [Cond.instanceMethod yX7_init, Cond.code yX7_init cX7_init 2 none, Cond.methodLink RX7 3 objectInit, Cond.classLink RX7 9 RX4, Cond.fieldLink RX7 11 "GobRow$Rail" "arms" "[LGobRow$Knots;", Cond.instantiable RX4 3, Cond.initialized RX4, Cond.fieldLink RX7 18 "GobRow$Rail" "told" "LGobRow$Knots;", Cond.instanceMethod yX4_init, Cond.code yX4_init cX4_init 1 none, Cond.methodLink RX4 3 objectInit, Cond.fieldLink RX4 9 "GobRow$Knots" "degrees" "[I", Cond.fieldLink RX4 15 "GobRow$Knots" "places" "[I", Cond.fieldLink RX4 18 "GobRow$Knots" "count" "I", Cond.methodLink RX7 22 yX4_add, Cond.instanceMethod yX4_add, Cond.selects RX4 yX4_add yX4_add, Cond.code yX4_add cX4_add 3 none, Cond.methodLink RX9 25 yX6_init, Cond.instanceMethod yX6_init, Cond.code yX6_init cX6_init 2 none, Cond.methodLink RX6 3 objectInit, Cond.fieldLink RX6 9 "GobRow$Order" "sections" "[I", Cond.fieldLink RX6 15 "GobRow$Order" "turnAt" "I"]
def wsL_law_r5 : List Cond := [Cond.fieldLink RX6 19 "GobRow$Order" "count" "I", Cond.methodLink RX9 32 yX5_init, Cond.instanceMethod yX5_init, Cond.code yX5_init cX5_init 2 none, Cond.methodLink RX5 3 objectInit, Cond.fieldLink RX5 9 "GobRow$Moulds" "uses" "[I", Cond.fieldLink RX5 15 "GobRow$Moulds" "dust" "[I", Cond.arrayClass .boolean, Cond.fieldLink RX5 18 "GobRow$Moulds" "pulled" "[Z", Cond.fieldLink RX5 22 "GobRow$Moulds" "good" "[I", Cond.fieldLink RX5 25 "GobRow$Moulds" "bad" "[I", Cond.fieldLink RX5 28 "GobRow$Moulds" "inSection" "[I", Cond.methodLink RX9 39 yX0_init, Cond.instanceMethod yX0_init, Cond.code yX0_init cX0_init 2 none, Cond.methodLink RX0 3 objectInit, Cond.classLink RX0 9 RX1, Cond.fieldLink RX0 11 "GobRow$Belt" "ring" "[LGobRow$Bottle;", Cond.fieldLink RX0 17 "GobRow$Belt" "eldest" "I", Cond.fieldLink RX0 21 "GobRow$Belt" "count" "I", Cond.instantiable RX1 7, Cond.initialized RX1, Cond.instanceMethod yX1_init, Cond.code yX1_init cX1_init 1 none]
def wsL_law_r6 : List Cond := [Cond.methodLink RX1 3 objectInit, Cond.fieldLink RX1 9 "GobRow$Bottle" "number" "I", Cond.fieldLink RX1 15 "GobRow$Bottle" "section" "I", Cond.fieldLink RX1 18 "GobRow$Bottle" "mould" "I", Cond.fieldLink RX1 21 "GobRow$Bottle" "job" "I", Cond.fieldLink RX1 24 "GobRow$Bottle" "aim" "I", Cond.fieldLink RX1 27 "GobRow$Bottle" "weight" "I", Cond.fieldLink RX1 30 "GobRow$Bottle" "fault" "I", Cond.methodLink RL 12 yX10_init, Cond.instanceMethod yX10_init, Cond.code yX10_init cX10_init 3 none, Cond.methodLink RX10 1 objectInit, Cond.fieldLink RX10 7 "GobRowModel" "onAt" "[I", Cond.fieldLink RX10 13 "GobRowModel" "offAt" "[I", Cond.fieldLink RX10 16 "GobRowModel" "lawKind" "[I", Cond.fieldLink RX10 19 "GobRowModel" "lawA" "[I", Cond.fieldLink RX10 22 "GobRowModel" "lawB" "[I", Cond.fieldLink RX10 25 "GobRowModel" "lawN" "[I", Cond.fieldLink RX10 28 "GobRowModel" "pace" "I", Cond.fieldLink RX10 32 "GobRowModel" "knotMany" "[I", Cond.fieldLink RX10 35 "GobRowModel" "knotDegree" "[I", Cond.fieldLink RX10 38 "GobRowModel" "knotPlace" "[I", Cond.fieldLink RX10 41 "GobRowModel" "toldDegree" "[I", Cond.fieldLink RX10 44 "GobRowModel" "toldPlace" "[I"]
def wsL_law_r7 : List Cond := [Cond.fieldLink RX10 47 "GobRowModel" "runs" "I", Cond.fieldLink RX10 50 "GobRowModel" "order" "[I", Cond.fieldLink RX10 53 "GobRowModel" "jobOf" "[I", Cond.fieldLink RX10 56 "GobRowModel" "mouldOf" "[I", Cond.fieldLink RX10 59 "GobRowModel" "aimOf" "[I", Cond.fieldLink RX10 62 "GobRowModel" "colourOf" "[I", Cond.fieldLink RX10 65 "GobRowModel" "uses" "[I", Cond.fieldLink RX10 68 "GobRowModel" "dust" "[I", Cond.fieldLink RX10 71 "GobRowModel" "isPulled" "[Z", Cond.fieldLink RX10 75 "GobRowModel" "goodOf" "[I", Cond.fieldLink RX10 78 "GobRowModel" "badOf" "[I", Cond.fieldLink RX10 81 "GobRowModel" "tube" "I", Cond.fieldLink RX10 84 "GobRowModel" "lasts" "I", Cond.fieldLink RX10 87 "GobRowModel" "number" "[I", Cond.fieldLink RX10 90 "GobRowModel" "section" "[I", Cond.fieldLink RX10 93 "GobRowModel" "mould" "[I", Cond.fieldLink RX10 96 "GobRowModel" "job" "[I", Cond.fieldLink RX10 99 "GobRowModel" "weight" "[I", Cond.fieldLink RX10 102 "GobRowModel" "aimThen" "[I", Cond.fieldLink RX10 105 "GobRowModel" "reason" "[I", Cond.fieldLink RX10 108 "GobRowModel" "judged" "[I", Cond.fieldLink RX10 111 "GobRowModel" "wasDegree" "[I", Cond.fieldLink RX10 114 "GobRowModel" "wasPlace" "[I", Cond.methodLink RL 13 yX9_set]
def wsL_law_r8 : List Cond := [Cond.instanceMethod yX9_set, Cond.selects RX9 yX9_set yX9_set, Cond.code yX9_set cX9_set 6 (some .int), Cond.fieldLink RX9 84 "GobRow$Drums" "rows" "[LGobRow$Drum;", Cond.methodLink RX9 76 yX9_isSetting, Cond.static yX9_isSetting, Cond.code yX9_isSetting cX9_isSetting 4 (some .boolean), Cond.methodLink RX9 94 yX9_isSection, Cond.static yX9_isSection, Cond.code yX9_isSection cX9_isSection 1 (some .boolean), Cond.methodLink RX9 98 yX9_isBetween, Cond.static yX9_isBetween, Cond.code yX9_isBetween cX9_isBetween 3 (some .boolean), Cond.methodLink RX9 140 yX9_isAct, Cond.static yX9_isAct, Cond.code yX9_isAct cX9_isAct 1 (some .boolean), Cond.methodLink RX9 152 yX9_isDegree, Cond.static yX9_isDegree, Cond.code yX9_isDegree cX9_isDegree 1 (some .boolean), Cond.methodLink RX9 80 yX3_brokenIf, Cond.instanceMethod yX3_brokenIf, Cond.selects RX3 yX3_brokenIf yX3_brokenIf, Cond.code yX3_brokenIf cX3_brokenIf 6 (some .int), Cond.methodLink RX3 36 yX2_become]
def wsL_law_r9 : List Cond := [Cond.instanceMethod yX2_become, Cond.selects RX2 yX2_become yX2_become, Cond.code yX2_become cX2_become 3 none, Cond.methodLink RX3 40 yX2_change, Cond.instanceMethod yX2_change, Cond.selects RX2 yX2_change yX2_change, Cond.code yX2_change cX2_change 4 none, Cond.methodLink RX3 44 yX8_isBroken, Cond.instanceMethod yX8_isBroken, Cond.selects RX8 yX8_isBroken yX8_isBroken, Cond.code yX8_isBroken cX8_isBroken 3 (some .boolean), Cond.fieldLink RX8 24 "GobRow$Drum" "off" "[I", Cond.fieldLink RX8 30 "GobRow$Drum" "on" "[I", Cond.static yX9_wayUp, Cond.code yX9_wayUp cX9_wayUp 2 (some .int), Cond.methodLink RX8 37 yX2_isDone, Cond.instanceMethod yX2_isDone, Cond.selects RX2 yX2_isDone yX2_isDone, Cond.code yX2_isDone cX2_isDone 3 (some .boolean), Cond.methodLink RX2 27 yX2_length, Cond.instanceMethod yX2_length, Cond.selects RX2 yX2_length yX2_length, Cond.code yX2_length cX2_length 2 (some .int), Cond.methodLink RX8 41 yX2_length]
def wsL_law_r10 : List Cond := [Cond.methodLink RX8 45 yX2_isInside, Cond.instanceMethod yX2_isInside, Cond.selects RX2 yX2_isInside yX2_isInside, Cond.code yX2_isInside cX2_isInside 3 (some .boolean), Cond.methodLink RX9 88 yX2_change, Cond.methodLink RL 17 yX10_set, Cond.instanceMethod yX10_set, Cond.selects RX10 yX10_set yX10_set, Cond.code yX10_set cX10_set 9 (some .int), Cond.methodLink RX10 144 yX10_maySet, Cond.instanceMethod yX10_maySet, Cond.selects RX10 yX10_maySet yX10_maySet, Cond.code yX10_maySet cX10_maySet 5 (some .boolean), Cond.methodLink RX10 134 yX10_isSection, Cond.static yX10_isSection, Cond.code yX10_isSection cX10_isSection 1 (some .boolean), Cond.methodLink RX10 117 yX10_in, Cond.static yX10_in, Cond.code yX10_in cX10_in 3 (some .boolean), Cond.methodLink RX10 138 yX10_isAct, Cond.static yX10_isAct, Cond.code yX10_isAct cX10_isAct 1 (some .boolean), Cond.methodLink RX10 141 yX10_isDegree, Cond.static yX10_isDegree]
def wsL_law_r11 : List Cond := [Cond.code yX10_isDegree cX10_isDegree 1 (some .boolean), Cond.methodLink RX10 148 yX10_brokenBy, Cond.instanceMethod yX10_brokenBy, Cond.selects RX10 yX10_brokenBy yX10_brokenBy, Cond.code yX10_brokenBy cX10_brokenBy 3 (some .int), Cond.fieldLink RX10 128 "GobRowModel" "laws" "I", Cond.methodLink RX10 131 yX10_keeps, Cond.instanceMethod yX10_keeps, Cond.selects RX10 yX10_keeps yX10_keeps, Cond.code yX10_keeps cX10_keeps 11 (some .boolean), Cond.methodLink RX10 121 yX10_lengthOf, Cond.instanceMethod yX10_lengthOf, Cond.selects RX10 yX10_lengthOf yX10_lengthOf, Cond.code yX10_lengthOf cX10_lengthOf 3 (some .int), Cond.methodLink RX10 125 yX10_isDone, Cond.instanceMethod yX10_isDone, Cond.selects RX10 yX10_isDone yX10_isDone, Cond.code yX10_isDone cX10_isDone 4 (some .boolean), Cond.methodLink RL 18 yX9_turn, Cond.instanceMethod yX9_turn, Cond.selects RX9 yX9_turn yX9_turn, Cond.code yX9_turn cX9_turn 3 (some .int), Cond.methodLink RX9 102 yX2_shift, Cond.instanceMethod yX2_shift]
def wsL_law_r12 : List Cond := [Cond.selects RX2 yX2_shift yX2_shift, Cond.code yX2_shift cX2_shift 3 none, Cond.methodLink RX2 18 yJ9_floorMod_7cf53, Cond.static yJ9_floorMod_7cf53, Cond.initialized RJ9, Cond.code yJ9_floorMod_7cf53 cJ9_floorMod_7cf53 3 (some .int), Cond.methodLink RL 22 yX10_turn, Cond.instanceMethod yX10_turn, Cond.selects RX10 yX10_turn yX10_turn, Cond.code yX10_turn cX10_turn 4 (some .int), Cond.methodLink RL 23 yX9_copy, Cond.instanceMethod yX9_copy, Cond.selects RX9 yX9_copy yX9_copy, Cond.code yX9_copy cX9_copy 3 (some .int), Cond.methodLink RX9 106 yX2_become, Cond.methodLink RL 26 yX10_copy, Cond.instanceMethod yX10_copy, Cond.selects RX10 yX10_copy yX10_copy, Cond.code yX10_copy cX10_copy 4 (some .int), Cond.methodLink RL 27 yX9_law, Cond.instanceMethod yX9_law, Cond.selects RX9 yX9_law yX9_law, Cond.code yX9_law cX9_law 6 (some .int), Cond.fieldLink RX9 113 "GobRow$Drums" "lawCount" "I"]
def wsL_law_r13 : List Cond := [Cond.fieldLink RX9 116 "GobRow$Drums" "laws" "[LGobRow$Rule;", Cond.fieldLink RX9 125 "GobRow$Drums" "turnsAMinute" "I", Cond.methodLink RX9 110 yX9_isLaw, Cond.static yX9_isLaw, Cond.code yX9_isLaw cX9_isLaw 4 (some .boolean), Cond.constant RX9 319 (60000), Cond.methodLink RX9 120 yX8_become, Cond.instanceMethod yX8_become, Cond.selects RX8 yX8_become yX8_become, Cond.code yX8_become cX8_become 5 none, Cond.methodLink RX9 128 yX3_anyBreaks, Cond.instanceMethod yX3_anyBreaks, Cond.selects RX3 yX3_anyBreaks yX3_anyBreaks, Cond.code yX3_anyBreaks cX3_anyBreaks 4 (some .boolean), Cond.methodLink RL 30 yX10_law, Cond.instanceMethod yX10_law, Cond.selects RX10 yX10_law yX10_law, Cond.code yX10_law cX10_law 6 (some .int), Cond.constant RX10 152 (60000), Cond.methodLink RL 31 yX9_repeal, Cond.instanceMethod yX9_repeal, Cond.selects RX9 yX9_repeal yX9_repeal, Cond.code yX9_repeal cX9_repeal 1 (some .int), Cond.methodLink RL 35 yX10_repeal]
def wsL_law_r14 : List Cond := [Cond.instanceMethod yX10_repeal, Cond.selects RX10 yX10_repeal yX10_repeal, Cond.code yX10_repeal cX10_repeal 1 (some .int), Cond.methodLink RL 36 yX9_pace, Cond.instanceMethod yX9_pace, Cond.selects RX9 yX9_pace yX9_pace, Cond.code yX9_pace cX9_pace 4 (some .int), Cond.methodLink RX9 132 yX3_brokenAt, Cond.instanceMethod yX3_brokenAt, Cond.selects RX3 yX3_brokenAt yX3_brokenAt, Cond.code yX3_brokenAt cX3_brokenAt 3 (some .int), Cond.methodLink RX3 48 yX3_anyBreaks, Cond.methodLink RL 40 yX10_pace, Cond.instanceMethod yX10_pace, Cond.selects RX10 yX10_pace yX10_pace, Cond.code yX10_pace cX10_pace 4 (some .int), Cond.methodLink RX10 153 yX10_brokenAt, Cond.instanceMethod yX10_brokenAt, Cond.selects RX10 yX10_brokenAt yX10_brokenAt, Cond.code yX10_brokenAt cX10_brokenAt 4 (some .int), Cond.methodLink RL 41 yX9_fastest, Cond.instanceMethod yX9_fastest, Cond.selects RX9 yX9_fastest yX9_fastest, Cond.code yX9_fastest cX9_fastest 1 (some .int)]
def wsL_law_r15 : List Cond := [Cond.methodLink RX9 136 yX3_greatestPace, Cond.instanceMethod yX3_greatestPace, Cond.selects RX3 yX3_greatestPace yX3_greatestPace, Cond.code yX3_greatestPace cX3_greatestPace 4 (some .int), Cond.methodLink RX3 56 Lib.Math.min.name, Cond.static Lib.Math.min.name, Cond.initialized "java/lang/Math", Cond.code Lib.Math.min.name Lib.Math.min.code 2 (some .int), Cond.methodLink RX3 52 yX8_greatestPace, Cond.instanceMethod yX8_greatestPace, Cond.selects RX8 yX8_greatestPace yX8_greatestPace, Cond.code yX8_greatestPace cX8_greatestPace 2 (some .int), Cond.methodLink RL 44 yX10_fastest, Cond.instanceMethod yX10_fastest, Cond.selects RX10 yX10_fastest yX10_fastest, Cond.code yX10_fastest cX10_fastest 2 (some .int), Cond.methodLink RL 45 yX9_act, Cond.instanceMethod yX9_act, Cond.selects RX9 yX9_act yX9_act, Cond.code yX9_act cX9_act 6 (some .int), Cond.fieldLink RX9 143 "GobRow$Drum" "on" "[I", Cond.fieldLink RX9 146 "GobRow$Drum" "off" "[I", Cond.methodLink RX9 149 yX2_length, Cond.methodLink RX9 155 yX2_isDone]
def wsL_law_r16 : List Cond := [Cond.methodLink RX9 158 yX9_asNumber, Cond.static yX9_asNumber, Cond.code yX9_asNumber cX9_asNumber 1 (some .int), Cond.methodLink RL 48 yX10_act, Cond.instanceMethod yX10_act, Cond.selects RX10 yX10_act yX10_act, Cond.code yX10_act cX10_act 5 (some .int), Cond.methodLink RL 49 yX9_would, Cond.instanceMethod yX9_would, Cond.selects RX9 yX9_would yX9_would, Cond.code yX9_would cX9_would 6 (some .int), Cond.methodLink RL 52 yX10_would, Cond.instanceMethod yX10_would, Cond.selects RX10 yX10_would yX10_would, Cond.code yX10_would cX10_would 9 (some .int), Cond.methodLink RL 53 yX9_arm, Cond.instanceMethod yX9_arm, Cond.selects RX9 yX9_arm yX9_arm, Cond.code yX9_arm cX9_arm 3 (some .int), Cond.fieldLink RX9 165 "GobRow$Rail" "told" "LGobRow$Knots;", Cond.fieldLink RX9 169 "GobRow$Knots" "count" "I", Cond.methodLink RX9 162 yX9_isArm, Cond.static yX9_isArm, Cond.code yX9_isArm cX9_isArm 1 (some .boolean)]
def wsL_law_r17 : List Cond := [Cond.methodLink RX9 174 yX7_swapWithTold, Cond.instanceMethod yX7_swapWithTold, Cond.selects RX7 yX7_swapWithTold yX7_swapWithTold, Cond.code yX7_swapWithTold cX7_swapWithTold 3 none, Cond.methodLink RX9 177 yX7_isClear, Cond.instanceMethod yX7_isClear, Cond.selects RX7 yX7_isClear yX7_isClear, Cond.code yX7_isClear cX7_isClear 3 (some .boolean), Cond.methodLink RX7 26 yX7_isPairClear, Cond.static yX7_isPairClear, Cond.code yX7_isPairClear cX7_isPairClear 3 (some .boolean), Cond.fieldLink RX7 30 "GobRow$Knots" "count" "I", Cond.fieldLink RX7 34 "GobRow$Knots" "degrees" "[I", Cond.methodLink RX7 42 yX7_isClearAt, Cond.static yX7_isClearAt, Cond.code yX7_isClearAt cX7_isClearAt 6 (some .boolean), Cond.methodLink RX7 46 yX4_below, Cond.instanceMethod yX4_below, Cond.selects RX4 yX4_below yX4_below, Cond.code yX4_below cX4_below 4 (some .int), Cond.methodLink RX4 22 yX4_lastAhead, Cond.instanceMethod yX4_lastAhead, Cond.selects RX4 yX4_lastAhead yX4_lastAhead, Cond.code yX4_lastAhead cX4_lastAhead 4 (some .int)]
def wsL_law_r18 : List Cond := [Cond.methodLink RX4 36 Lib.Math.max.name, Cond.static Lib.Math.max.name, Cond.code Lib.Math.max.name Lib.Math.max.code 2 (some .int), Cond.methodLink RX4 26 yX4_nextInRing, Cond.instanceMethod yX4_nextInRing, Cond.selects RX4 yX4_nextInRing yX4_nextInRing, Cond.code yX4_nextInRing cX4_nextInRing 2 (some .int), Cond.methodLink RX7 50 yX4_above, Cond.instanceMethod yX4_above, Cond.selects RX4 yX4_above yX4_above, Cond.code yX4_above cX4_above 4 (some .int), Cond.methodLink RX4 29 yX4_below, Cond.methodLink RL 56 yX10_arm, Cond.instanceMethod yX10_arm, Cond.selects RX10 yX10_arm yX10_arm, Cond.code yX10_arm cX10_arm 4 (some .int), Cond.fieldLink RX10 171 "GobRowModel" "told" "I", Cond.methodLink RX10 168 yX10_isArm, Cond.static yX10_isArm, Cond.code yX10_isArm cX10_isArm 1 (some .boolean), Cond.methodLink RX10 174 yX10_areClear, Cond.instanceMethod yX10_areClear, Cond.selects RX10 yX10_areClear yX10_areClear, Cond.code yX10_areClear cX10_areClear 8 (some .boolean)]
def wsL_law_r19 : List Cond := [Cond.fieldLink RX10 156 "GobRowModel" "above" "I", Cond.constantLong RX10 166 (50), Cond.fieldLink RX10 159 "GobRowModel" "below" "I", Cond.methodLink RX10 162 yX10_find, Cond.instanceMethod yX10_find, Cond.selects RX10 yX10_find yX10_find, Cond.code yX10_find cX10_find 10 none, Cond.methodLink RL 57 yX9_knot, Cond.instanceMethod yX9_knot, Cond.selects RX9 yX9_knot yX9_knot, Cond.code yX9_knot cX9_knot 3 (some .int), Cond.methodLink RX9 181 yX4_latest, Cond.instanceMethod yX4_latest, Cond.selects RX4 yX4_latest yX4_latest, Cond.code yX4_latest cX4_latest 1 (some .int), Cond.methodLink RX9 184 yX4_add, Cond.methodLink RL 60 yX10_knot, Cond.instanceMethod yX10_knot, Cond.selects RX10 yX10_knot yX10_knot, Cond.code yX10_knot cX10_knot 3 (some .int), Cond.methodLink RL 61 yX9_forget, Cond.instanceMethod yX9_forget, Cond.selects RX9 yX9_forget yX9_forget, Cond.code yX9_forget cX9_forget 2 (some .int)]
def wsL_law_r20 : List Cond := [Cond.methodLink RL 64 yX10_forget, Cond.instanceMethod yX10_forget, Cond.selects RX10 yX10_forget yX10_forget, Cond.code yX10_forget cX10_forget 2 (some .int), Cond.methodLink RL 65 yX9_place, Cond.instanceMethod yX9_place, Cond.selects RX9 yX9_place yX9_place, Cond.code yX9_place cX9_place 7 (some .int), Cond.fieldLink RX9 188 "GobRow$Rail" "arms" "[LGobRow$Knots;", Cond.methodLink RX9 192 yX4_above, Cond.methodLink RX9 195 yX4_below, Cond.methodLink RX9 198 yX9_greatestDivisor, Cond.static yX9_greatestDivisor, Cond.code yX9_greatestDivisor cX9_greatestDivisor 6 (some .int), Cond.methodLink RX9 316 Lib.Math.max.name, Cond.methodLink RL 69 yX10_place, Cond.instanceMethod yX10_place, Cond.selects RX10 yX10_place yX10_place, Cond.code yX10_place cX10_place 5 (some .int), Cond.methodLink RX10 178 yX10_common, Cond.static yX10_common, Cond.code yX10_common cX10_common 5 (some .int), Cond.methodLink RL 70 yX9_nearest, Cond.instanceMethod yX9_nearest]
def wsL_law_r21 : List Cond := [Cond.selects RX9 yX9_nearest yX9_nearest, Cond.code yX9_nearest cX9_nearest 3 (some .int), Cond.methodLink RX9 202 yX7_nearestDegree, Cond.instanceMethod yX7_nearestDegree, Cond.selects RX7 yX7_nearestDegree yX7_nearestDegree, Cond.code yX7_nearestDegree cX7_nearestDegree 5 (some .int), Cond.methodLink RX7 38 yX7_nearerDegree, Cond.static yX7_nearerDegree, Cond.code yX7_nearerDegree cX7_nearerDegree 8 (some .int), Cond.methodLink RX7 60 Lib.Math.min.name, Cond.methodLink RX7 53 yX7_distanceAbove, Cond.static yX7_distanceAbove, Cond.code yX7_distanceAbove cX7_distanceAbove 7 (some .long), Cond.methodLink RX7 57 yX7_distanceBelow, Cond.static yX7_distanceBelow, Cond.code yX7_distanceBelow cX7_distanceBelow 3 (some .long), Cond.methodLink RL 73 yX10_nearest, Cond.instanceMethod yX10_nearest, Cond.selects RX10 yX10_nearest yX10_nearest, Cond.code yX10_nearest cX10_nearest 17 (some .int), Cond.methodLink RL 74 yX9_stop, Cond.instanceMethod yX9_stop, Cond.selects RX9 yX9_stop yX9_stop, Cond.code yX9_stop cX9_stop 3 (some .int)]
def wsL_law_r22 : List Cond := [Cond.fieldLink RX9 212 "GobRow$Order" "count" "I", Cond.methodLink RX9 206 yX6_find, Cond.instanceMethod yX6_find, Cond.selects RX6 yX6_find yX6_find, Cond.code yX6_find cX6_find 3 (some .int), Cond.methodLink RX9 209 yX6_leave, Cond.instanceMethod yX6_leave, Cond.selects RX6 yX6_leave yX6_leave, Cond.code yX6_leave cX6_leave 3 none, Cond.methodLink RL 77 yX10_stop, Cond.instanceMethod yX10_stop, Cond.selects RX10 yX10_stop yX10_stop, Cond.code yX10_stop cX10_stop 4 (some .int), Cond.fieldLink RX10 184 "GobRowModel" "turn" "I", Cond.methodLink RX10 181 yX10_placeInOrder, Cond.instanceMethod yX10_placeInOrder, Cond.selects RX10 yX10_placeInOrder yX10_placeInOrder, Cond.code yX10_placeInOrder cX10_placeInOrder 3 (some .int), Cond.methodLink RL 78 yX9_start, Cond.instanceMethod yX9_start, Cond.selects RX9 yX9_start yX9_start, Cond.code yX9_start cX9_start 2 (some .int), Cond.methodLink RX9 213 yX6_join, Cond.instanceMethod yX6_join]
def wsL_law_r23 : List Cond := [Cond.selects RX6 yX6_join yX6_join, Cond.code yX6_join cX6_join 2 none, Cond.methodLink RL 81 yX10_start, Cond.instanceMethod yX10_start, Cond.selects RX10 yX10_start yX10_start, Cond.code yX10_start cX10_start 2 (some .int), Cond.methodLink RL 82 yX9_job, Cond.instanceMethod yX9_job, Cond.selects RX9 yX9_job yX9_job, Cond.code yX9_job cX9_job 4 (some .int), Cond.methodLink RX9 216 yX9_isJob, Cond.static yX9_isJob, Cond.code yX9_isJob cX9_isJob 1 (some .boolean), Cond.methodLink RL 85 yX10_job, Cond.instanceMethod yX10_job, Cond.selects RX10 yX10_job yX10_job, Cond.code yX10_job cX10_job 4 (some .int), Cond.methodLink RX10 187 yX10_isJob, Cond.static yX10_isJob, Cond.code yX10_isJob cX10_isJob 1 (some .boolean), Cond.methodLink RL 86 yX9_aim, Cond.instanceMethod yX9_aim, Cond.selects RX9 yX9_aim yX9_aim, Cond.code yX9_aim cX9_aim 4 (some .int)]
def wsL_law_r24 : List Cond := [Cond.methodLink RX9 219 yX9_isColour, Cond.static yX9_isColour, Cond.code yX9_isColour cX9_isColour 1 (some .boolean), Cond.methodLink RL 89 yX10_aim, Cond.instanceMethod yX10_aim, Cond.selects RX10 yX10_aim yX10_aim, Cond.code yX10_aim cX10_aim 4 (some .int), Cond.methodLink RL 90 yX9_glass, Cond.instanceMethod yX9_glass, Cond.selects RX9 yX9_glass yX9_glass, Cond.code yX9_glass cX9_glass 3 (some .int), Cond.methodLink RL 93 yX10_glass, Cond.instanceMethod yX10_glass, Cond.selects RX10 yX10_glass yX10_glass, Cond.code yX10_glass cX10_glass 3 (some .int), Cond.fieldLink RX10 190 "GobRowModel" "colour" "I", Cond.fieldLink RX10 193 "GobRowModel" "mixed" "I", Cond.methodLink RL 94 yX9_mould, Cond.instanceMethod yX9_mould, Cond.selects RX9 yX9_mould yX9_mould, Cond.code yX9_mould cX9_mould 4 (some .int), Cond.fieldLink RX9 228 "GobRow$Moulds" "inSection" "[I", Cond.methodLink RX9 222 yX9_isMould, Cond.static yX9_isMould]
def wsL_law_r25 : List Cond := [Cond.code yX9_isMould cX9_isMould 1 (some .boolean), Cond.methodLink RX9 225 yX5_sectionOf, Cond.instanceMethod yX5_sectionOf, Cond.selects RX5 yX5_sectionOf yX5_sectionOf, Cond.code yX5_sectionOf cX5_sectionOf 3 (some .int), Cond.methodLink RL 97 yX10_mould, Cond.instanceMethod yX10_mould, Cond.selects RX10 yX10_mould yX10_mould, Cond.code yX10_mould cX10_mould 4 (some .int), Cond.methodLink RX10 196 yX10_isMould, Cond.static yX10_isMould, Cond.code yX10_isMould cX10_isMould 1 (some .boolean), Cond.methodLink RX10 199 yX10_sectionOf, Cond.instanceMethod yX10_sectionOf, Cond.selects RX10 yX10_sectionOf yX10_sectionOf, Cond.code yX10_sectionOf cX10_sectionOf 3 (some .int), Cond.methodLink RL 98 yX9_swab, Cond.instanceMethod yX9_swab, Cond.selects RX9 yX9_swab yX9_swab, Cond.code yX9_swab cX9_swab 3 (some .int), Cond.fieldLink RX9 231 "GobRow$Moulds" "dust" "[I", Cond.methodLink RL 101 yX10_swab, Cond.instanceMethod yX10_swab, Cond.selects RX10 yX10_swab yX10_swab]
def wsL_law_r26 : List Cond := [Cond.code yX10_swab cX10_swab 3 (some .int), Cond.methodLink RL 102 yX9_repair, Cond.instanceMethod yX9_repair, Cond.selects RX9 yX9_repair yX9_repair, Cond.code yX9_repair cX9_repair 3 (some .int), Cond.fieldLink RX9 234 "GobRow$Moulds" "uses" "[I", Cond.methodLink RX9 237 yX5_makeNew, Cond.instanceMethod yX5_makeNew, Cond.selects RX5 yX5_makeNew yX5_makeNew, Cond.code yX5_makeNew cX5_makeNew 2 none, Cond.methodLink RL 105 yX10_repair, Cond.instanceMethod yX10_repair, Cond.selects RX10 yX10_repair yX10_repair, Cond.code yX10_repair cX10_repair 3 (some .int), Cond.methodLink RL 106 yX9_pull, Cond.instanceMethod yX9_pull, Cond.selects RX9 yX9_pull yX9_pull, Cond.code yX9_pull cX9_pull 4 (some .int), Cond.fieldLink RX9 240 "GobRow$Moulds" "pulled" "[Z", Cond.methodLink RL 110 yX10_pull, Cond.instanceMethod yX10_pull, Cond.selects RX10 yX10_pull yX10_pull, Cond.code yX10_pull cX10_pull 4 (some .int), Cond.methodLink RL 111 yX9_rule]
def wsL_law_r27 : List Cond := [Cond.instanceMethod yX9_rule, Cond.selects RX9 yX9_rule yX9_rule, Cond.code yX9_rule cX9_rule 4 (some .int), Cond.methodLink RL 114 yX10_rule, Cond.instanceMethod yX10_rule, Cond.selects RX10 yX10_rule yX10_rule, Cond.code yX10_rule cX10_rule 4 (some .int), Cond.fieldLink RX10 202 "GobRowModel" "drift" "I", Cond.methodLink RL 115 yX9_book, Cond.instanceMethod yX9_book, Cond.selects RX9 yX9_book yX9_book, Cond.code yX9_book cX9_book 3 (some .int), Cond.fieldLink RX9 244 "GobRow$Moulds" "good" "[I", Cond.fieldLink RX9 247 "GobRow$Moulds" "bad" "[I", Cond.methodLink RL 118 yX10_book, Cond.instanceMethod yX10_book, Cond.selects RX10 yX10_book yX10_book, Cond.code yX10_book cX10_book 3 (some .int), Cond.methodLink RL 119 yX9_cut, Cond.instanceMethod yX9_cut, Cond.selects RX9 yX9_cut yX9_cut, Cond.code yX9_cut cX9_cut 4 (some .int), Cond.fieldLink RX9 250 "GobRow$Belt" "count" "I", Cond.methodLink RX9 251 yX9_takeOffEldest]
def wsL_law_r28 : List Cond := [Cond.instanceMethod yX9_takeOffEldest, Cond.selects RX9 yX9_takeOffEldest yX9_takeOffEldest, Cond.code yX9_takeOffEldest cX9_takeOffEldest 4 none, Cond.fieldLink RX9 269 "GobRow$Bottle" "mould" "I", Cond.fieldLink RX9 261 "GobRow$Bottle" "number" "I", Cond.fieldLink RX9 292 "GobRow$Bottle" "aim" "I", Cond.fieldLink RX9 275 "GobRow$Bottle" "weight" "I", Cond.methodLink RX9 313 Lib.Math.min.name, Cond.methodLink RX9 306 yX0_takeEldest, Cond.instanceMethod yX0_takeEldest, Cond.selects RX0 yX0_takeEldest yX0_takeEldest, Cond.code yX0_takeEldest cX0_takeEldest 2 (some (.object "GobRow$Bottle")), Cond.methodLink RX9 278 yX9_verdict, Cond.instanceMethod yX9_verdict, Cond.selects RX9 yX9_verdict yX9_verdict, Cond.code yX9_verdict cX9_verdict 2 (some .int), Cond.fieldLink RX9 298 "GobRow$Bottle" "fault" "I", Cond.methodLink RX9 301 Lib.Math.abs.name, Cond.static Lib.Math.abs.name, Cond.code Lib.Math.abs.name Lib.Math.abs.code 1 (some .int), Cond.methodLink RX9 309 yX5_enter, Cond.instanceMethod yX5_enter, Cond.selects RX5 yX5_enter yX5_enter, Cond.code yX5_enter cX5_enter 3 none]
def wsL_law_r29 : List Cond := [Cond.methodLink RX9 254 yX9_makeBottle, Cond.instanceMethod yX9_makeBottle, Cond.selects RX9 yX9_makeBottle yX9_makeBottle, Cond.code yX9_makeBottle cX9_makeBottle 5 none, Cond.fieldLink RX9 266 "GobRow$Bottle" "section" "I", Cond.fieldLink RX9 272 "GobRow$Bottle" "job" "I", Cond.methodLink RX9 282 yX6_next, Cond.instanceMethod yX6_next, Cond.selects RX6 yX6_next yX6_next, Cond.code yX6_next cX6_next 1 (some .int), Cond.methodLink RX9 285 yX6_pass, Cond.instanceMethod yX6_pass, Cond.selects RX6 yX6_pass yX6_pass, Cond.code yX6_pass cX6_pass 1 none, Cond.methodLink RX9 288 yX0_putLast, Cond.instanceMethod yX0_putLast, Cond.selects RX0 yX0_putLast yX0_putLast, Cond.code yX0_putLast cX0_putLast 2 (some (.object "GobRow$Bottle")), Cond.methodLink RX0 25 yX0_fromEldest, Cond.instanceMethod yX0_fromEldest, Cond.selects RX0 yX0_fromEldest yX0_fromEldest, Cond.code yX0_fromEldest cX0_fromEldest 2 (some (.object "GobRow$Bottle")), Cond.methodLink RX9 295 yX9_faultOfCut, Cond.instanceMethod yX9_faultOfCut]
def wsL_law_r30 : List Cond := [Cond.selects RX9 yX9_faultOfCut yX9_faultOfCut, Cond.code yX9_faultOfCut cX9_faultOfCut 3 (some .int), Cond.methodLink RL 122 yX10_cut, Cond.instanceMethod yX10_cut, Cond.selects RX10 yX10_cut yX10_cut, Cond.code yX10_cut cX10_cut 4 (some .int), Cond.fieldLink RX10 208 "GobRowModel" "belt" "I", Cond.methodLink RX10 214 yX10_comeOff, Cond.instanceMethod yX10_comeOff, Cond.selects RX10 yX10_comeOff yX10_comeOff, Cond.code yX10_comeOff cX10_comeOff 3 none, Cond.methodLink RX10 205 yX10_judgeOf, Cond.instanceMethod yX10_judgeOf, Cond.selects RX10 yX10_judgeOf yX10_judgeOf, Cond.code yX10_judgeOf cX10_judgeOf 3 (some .int), Cond.methodLink RX10 217 yX10_cutOne, Cond.instanceMethod yX10_cutOne, Cond.selects RX10 yX10_cutOne yX10_cutOne, Cond.code yX10_cutOne cX10_cutOne 5 none, Cond.fieldLink RX10 211 "GobRowModel" "cuts" "I", Cond.methodLink RL 123 yX9_drain, Cond.instanceMethod yX9_drain, Cond.selects RX9 yX9_drain yX9_drain, Cond.code yX9_drain cX9_drain 3 (some .int)]
def wsL_law_r31 : List Cond := [Cond.methodLink RL 126 yX10_drain, Cond.instanceMethod yX10_drain, Cond.selects RX10 yX10_drain yX10_drain, Cond.code yX10_drain cX10_drain 3 (some .int), Cond.methodLink RL 127 yX9_bottle, Cond.instanceMethod yX9_bottle, Cond.selects RX9 yX9_bottle yX9_bottle, Cond.code yX9_bottle cX9_bottle 4 (some .int), Cond.methodLink RX9 257 yX0_fromEldest, Cond.methodLink RL 130 yX10_bottle, Cond.instanceMethod yX10_bottle, Cond.selects RX10 yX10_bottle yX10_bottle, Cond.code yX10_bottle cX10_bottle 3 (some .int), Cond.methodLink RL 131 yX9_many, Cond.instanceMethod yX9_many, Cond.selects RX9 yX9_many yX9_many, Cond.code yX9_many cX9_many 2 (some .int), Cond.methodLink RL 134 yX10_many, Cond.instanceMethod yX10_many, Cond.selects RX10 yX10_many yX10_many, Cond.code yX10_many cX10_many 2 (some .int)]
def wsL_law : List Cond := (wsL_law_r1 ++ (wsL_law_r2 ++ (wsL_law_r3 ++ (wsL_law_r4 ++ (wsL_law_r5 ++ (wsL_law_r6 ++ (wsL_law_r7 ++ (wsL_law_r8 ++ (wsL_law_r9 ++ (wsL_law_r10 ++ (wsL_law_r11 ++ (wsL_law_r12 ++ (wsL_law_r13 ++ (wsL_law_r14 ++ (wsL_law_r15 ++ (wsL_law_r16 ++ (wsL_law_r17 ++ (wsL_law_r18 ++ (wsL_law_r19 ++ (wsL_law_r20 ++ (wsL_law_r21 ++ (wsL_law_r22 ++ (wsL_law_r23 ++ (wsL_law_r24 ++ (wsL_law_r25 ++ (wsL_law_r26 ++ (wsL_law_r27 ++ (wsL_law_r28 ++ (wsL_law_r29 ++ (wsL_law_r30 ++ wsL_law_r31)))))))))))))))))))))))))))))) ++ wsX90 ++ wsX100 ++ wsX30 ++ wsX70 ++ wsX60 ++ wsX50 ++ wsX00 ++ wsX20 ++ wsX80 ++ wsX40 ++ wsX10 ++ ([] : List Cond)
end
section
set_option maxRecDepth 20000 in
theorem ggX0_init_X1_init : GoodIn wsX0_init wsX1_init := goodIn_r _ [11, 12, 2, 3, 13, 14, 15, 16, 17, 18, 19, 23, 24, 25, 26, 27, 28, 29] (by decide +kernel) (by decide +kernel)
set_option maxRecDepth 20000 in
theorem gX0_init_X1_init_n24 : GoodIn wsX0_init (wsX1_init) := ggX0_init_X1_init
theorem dX0_init_0 : decode cX0_init 0 = .ok (.aload_n 0, 1) := by decide +kernel
theorem dX0_init_1 : decode cX0_init 1 = .ok (.invokespecial 3, 3) := by decide +kernel
theorem dX0_init_4 : decode cX0_init 4 = .ok (.aload_n 0, 1) := by decide +kernel
theorem dX0_init_5 : decode cX0_init 5 = .ok (.bipush 12, 2) := by decide +kernel
theorem dX0_init_7 : decode cX0_init 7 = .ok (.anewarray 9, 3) := by decide +kernel
theorem dX0_init_10 : decode cX0_init 10 = .ok (.putfield 11, 3) := by decide +kernel
theorem dX0_init_13 : decode cX0_init 13 = .ok (.aload_n 0, 1) := by decide +kernel
theorem dX0_init_14 : decode cX0_init 14 = .ok (.iconst 0, 1) := by decide +kernel
theorem dX0_init_15 : decode cX0_init 15 = .ok (.putfield 17, 3) := by decide +kernel
theorem dX0_init_18 : decode cX0_init 18 = .ok (.aload_n 0, 1) := by decide +kernel
theorem dX0_init_19 : decode cX0_init 19 = .ok (.iconst 0, 1) := by decide +kernel
theorem dX0_init_20 : decode cX0_init 20 = .ok (.putfield 21, 3) := by decide +kernel
theorem dX0_init_23 : decode cX0_init 23 = .ok (.iconst 0, 1) := by decide +kernel
theorem dX0_init_24 : decode cX0_init 24 = .ok (.istore_n 1, 1) := by decide +kernel
theorem dX0_init_25 : decode cX0_init 25 = .ok (.iload_n 1, 1) := by decide +kernel
theorem dX0_init_26 : decode cX0_init 26 = .ok (.bipush 12, 2) := by decide +kernel
theorem dX0_init_28 : decode cX0_init 28 = .ok (.if_icmp .ge 22, 3) := by decide +kernel
theorem dX0_init_31 : decode cX0_init 31 = .ok (.aload_n 0, 1) := by decide +kernel
theorem dX0_init_32 : decode cX0_init 32 = .ok (.getfield 11, 3) := by decide +kernel
theorem dX0_init_35 : decode cX0_init 35 = .ok (.iload_n 1, 1) := by decide +kernel
theorem dX0_init_36 : decode cX0_init 36 = .ok (.new 9, 3) := by decide +kernel
theorem dX0_init_39 : decode cX0_init 39 = .ok (.dup, 1) := by decide +kernel
theorem dX0_init_40 : decode cX0_init 40 = .ok (.invokespecial 24, 3) := by decide +kernel
theorem dX0_init_43 : decode cX0_init 43 = .ok (.aastore, 1) := by decide +kernel
theorem dX0_init_44 : decode cX0_init 44 = .ok (.iinc 1 1, 3) := by decide +kernel
theorem dX0_init_47 : decode cX0_init 47 = .ok (.goto (-22), 3) := by decide +kernel
theorem dX0_init_50 : decode cX0_init 50 = .ok (.return_, 1) := by decide +kernel
theorem dX0_fromEldest_0 : decode cX0_fromEldest 0 = .ok (.aload_n 0, 1) := by decide +kernel
theorem dX0_fromEldest_1 : decode cX0_fromEldest 1 = .ok (.getfield 11, 3) := by decide +kernel
theorem dX0_fromEldest_4 : decode cX0_fromEldest 4 = .ok (.aload_n 0, 1) := by decide +kernel
theorem dX0_fromEldest_5 : decode cX0_fromEldest 5 = .ok (.getfield 17, 3) := by decide +kernel
theorem dX0_fromEldest_8 : decode cX0_fromEldest 8 = .ok (.iload_n 1, 1) := by decide +kernel
theorem dX0_fromEldest_9 : decode cX0_fromEldest 9 = .ok (.iadd, 1) := by decide +kernel
theorem dX0_fromEldest_10 : decode cX0_fromEldest 10 = .ok (.bipush 12, 2) := by decide +kernel
theorem dX0_fromEldest_12 : decode cX0_fromEldest 12 = .ok (.irem, 1) := by decide +kernel
theorem dX0_fromEldest_13 : decode cX0_fromEldest 13 = .ok (.aaload, 1) := by decide +kernel
theorem dX0_fromEldest_14 : decode cX0_fromEldest 14 = .ok (.areturn, 1) := by decide +kernel
set_option maxRecDepth 20000 in
theorem ggX0_putLast_X0_fromEldest : GoodIn wsX0_putLast wsX0_fromEldest := goodIn_r _ [6, 7, 8, 9, 10, 11] (by decide +kernel) (by decide +kernel)
set_option maxRecDepth 20000 in
theorem gX0_putLast_X0_fromEldest : GoodIn wsX0_putLast (wsV RX0 25 RX0 yX0_fromEldest wsX0_fromEldest) := goodIn_app (goodIn_of _ (by decide +kernel)) ggX0_putLast_X0_fromEldest
theorem dX0_putLast_0 : decode cX0_putLast 0 = .ok (.aload_n 0, 1) := by decide +kernel
theorem dX0_putLast_1 : decode cX0_putLast 1 = .ok (.aload_n 0, 1) := by decide +kernel
theorem dX0_putLast_2 : decode cX0_putLast 2 = .ok (.getfield 21, 3) := by decide +kernel
theorem dX0_putLast_5 : decode cX0_putLast 5 = .ok (.invokevirtual 25, 3) := by decide +kernel
theorem dX0_putLast_8 : decode cX0_putLast 8 = .ok (.astore_n 1, 1) := by decide +kernel
theorem dX0_putLast_9 : decode cX0_putLast 9 = .ok (.aload_n 0, 1) := by decide +kernel
theorem dX0_putLast_10 : decode cX0_putLast 10 = .ok (.dup, 1) := by decide +kernel
theorem dX0_putLast_11 : decode cX0_putLast 11 = .ok (.getfield 21, 3) := by decide +kernel
theorem dX0_putLast_14 : decode cX0_putLast 14 = .ok (.iconst 1, 1) := by decide +kernel
theorem dX0_putLast_15 : decode cX0_putLast 15 = .ok (.iadd, 1) := by decide +kernel
theorem dX0_putLast_16 : decode cX0_putLast 16 = .ok (.putfield 21, 3) := by decide +kernel
theorem dX0_putLast_19 : decode cX0_putLast 19 = .ok (.aload_n 1, 1) := by decide +kernel
theorem dX0_putLast_20 : decode cX0_putLast 20 = .ok (.areturn, 1) := by decide +kernel
theorem dX0_takeEldest_0 : decode cX0_takeEldest 0 = .ok (.aload_n 0, 1) := by decide +kernel
theorem dX0_takeEldest_1 : decode cX0_takeEldest 1 = .ok (.getfield 11, 3) := by decide +kernel
theorem dX0_takeEldest_4 : decode cX0_takeEldest 4 = .ok (.aload_n 0, 1) := by decide +kernel
theorem dX0_takeEldest_5 : decode cX0_takeEldest 5 = .ok (.getfield 17, 3) := by decide +kernel
theorem dX0_takeEldest_8 : decode cX0_takeEldest 8 = .ok (.aaload, 1) := by decide +kernel
theorem dX0_takeEldest_9 : decode cX0_takeEldest 9 = .ok (.astore_n 1, 1) := by decide +kernel
theorem dX0_takeEldest_10 : decode cX0_takeEldest 10 = .ok (.aload_n 0, 1) := by decide +kernel
theorem dX0_takeEldest_11 : decode cX0_takeEldest 11 = .ok (.aload_n 0, 1) := by decide +kernel
theorem dX0_takeEldest_12 : decode cX0_takeEldest 12 = .ok (.getfield 17, 3) := by decide +kernel
theorem dX0_takeEldest_15 : decode cX0_takeEldest 15 = .ok (.iconst 1, 1) := by decide +kernel
theorem dX0_takeEldest_16 : decode cX0_takeEldest 16 = .ok (.iadd, 1) := by decide +kernel
theorem dX0_takeEldest_17 : decode cX0_takeEldest 17 = .ok (.bipush 12, 2) := by decide +kernel
theorem dX0_takeEldest_19 : decode cX0_takeEldest 19 = .ok (.irem, 1) := by decide +kernel
theorem dX0_takeEldest_20 : decode cX0_takeEldest 20 = .ok (.putfield 17, 3) := by decide +kernel
theorem dX0_takeEldest_23 : decode cX0_takeEldest 23 = .ok (.aload_n 0, 1) := by decide +kernel
theorem dX0_takeEldest_24 : decode cX0_takeEldest 24 = .ok (.dup, 1) := by decide +kernel
theorem dX0_takeEldest_25 : decode cX0_takeEldest 25 = .ok (.getfield 21, 3) := by decide +kernel
theorem dX0_takeEldest_28 : decode cX0_takeEldest 28 = .ok (.iconst 1, 1) := by decide +kernel
theorem dX0_takeEldest_29 : decode cX0_takeEldest 29 = .ok (.isub, 1) := by decide +kernel
theorem dX0_takeEldest_30 : decode cX0_takeEldest 30 = .ok (.putfield 21, 3) := by decide +kernel
theorem dX0_takeEldest_33 : decode cX0_takeEldest 33 = .ok (.aload_n 1, 1) := by decide +kernel
theorem dX0_takeEldest_34 : decode cX0_takeEldest 34 = .ok (.areturn, 1) := by decide +kernel
theorem dX1_init_0 : decode cX1_init 0 = .ok (.aload_n 0, 1) := by decide +kernel
theorem dX1_init_1 : decode cX1_init 1 = .ok (.invokespecial 3, 3) := by decide +kernel
theorem dX1_init_4 : decode cX1_init 4 = .ok (.aload_n 0, 1) := by decide +kernel
theorem dX1_init_5 : decode cX1_init 5 = .ok (.iconst 0, 1) := by decide +kernel
theorem dX1_init_6 : decode cX1_init 6 = .ok (.putfield 9, 3) := by decide +kernel
theorem dX1_init_9 : decode cX1_init 9 = .ok (.aload_n 0, 1) := by decide +kernel
theorem dX1_init_10 : decode cX1_init 10 = .ok (.iconst 0, 1) := by decide +kernel
theorem dX1_init_11 : decode cX1_init 11 = .ok (.putfield 15, 3) := by decide +kernel
theorem dX1_init_14 : decode cX1_init 14 = .ok (.aload_n 0, 1) := by decide +kernel
theorem dX1_init_15 : decode cX1_init 15 = .ok (.iconst 0, 1) := by decide +kernel
theorem dX1_init_16 : decode cX1_init 16 = .ok (.putfield 18, 3) := by decide +kernel
theorem dX1_init_19 : decode cX1_init 19 = .ok (.aload_n 0, 1) := by decide +kernel
theorem dX1_init_20 : decode cX1_init 20 = .ok (.iconst 0, 1) := by decide +kernel
theorem dX1_init_21 : decode cX1_init 21 = .ok (.putfield 21, 3) := by decide +kernel
theorem dX1_init_24 : decode cX1_init 24 = .ok (.aload_n 0, 1) := by decide +kernel
theorem dX1_init_25 : decode cX1_init 25 = .ok (.iconst 0, 1) := by decide +kernel
theorem dX1_init_26 : decode cX1_init 26 = .ok (.putfield 24, 3) := by decide +kernel
theorem dX1_init_29 : decode cX1_init 29 = .ok (.aload_n 0, 1) := by decide +kernel
theorem dX1_init_30 : decode cX1_init 30 = .ok (.iconst 0, 1) := by decide +kernel
theorem dX1_init_31 : decode cX1_init 31 = .ok (.putfield 27, 3) := by decide +kernel
theorem dX1_init_34 : decode cX1_init 34 = .ok (.aload_n 0, 1) := by decide +kernel
theorem dX1_init_35 : decode cX1_init 35 = .ok (.iconst 0, 1) := by decide +kernel
theorem dX1_init_36 : decode cX1_init 36 = .ok (.putfield 30, 3) := by decide +kernel
theorem dX1_init_39 : decode cX1_init 39 = .ok (.return_, 1) := by decide +kernel
theorem dX2_init_0 : decode cX2_init 0 = .ok (.aload_n 0, 1) := by decide +kernel
theorem dX2_init_1 : decode cX2_init 1 = .ok (.invokespecial 3, 3) := by decide +kernel
theorem dX2_init_4 : decode cX2_init 4 = .ok (.aload_n 0, 1) := by decide +kernel
theorem dX2_init_5 : decode cX2_init 5 = .ok (.bipush 8, 2) := by decide +kernel
theorem dX2_init_7 : decode cX2_init 7 = .ok (.newarray .int, 2) := by decide +kernel
theorem dX2_init_9 : decode cX2_init 9 = .ok (.putfield 9, 3) := by decide +kernel
theorem dX2_init_12 : decode cX2_init 12 = .ok (.aload_n 0, 1) := by decide +kernel
theorem dX2_init_13 : decode cX2_init 13 = .ok (.bipush 8, 2) := by decide +kernel
theorem dX2_init_15 : decode cX2_init 15 = .ok (.newarray .int, 2) := by decide +kernel
theorem dX2_init_17 : decode cX2_init 17 = .ok (.putfield 15, 3) := by decide +kernel
theorem dX2_init_20 : decode cX2_init 20 = .ok (.iconst 0, 1) := by decide +kernel
theorem dX2_init_21 : decode cX2_init 21 = .ok (.istore_n 1, 1) := by decide +kernel
theorem dX2_init_22 : decode cX2_init 22 = .ok (.iload_n 1, 1) := by decide +kernel
theorem dX2_init_23 : decode cX2_init 23 = .ok (.bipush 8, 2) := by decide +kernel
theorem dX2_init_25 : decode cX2_init 25 = .ok (.if_icmp .ge 32, 3) := by decide +kernel
theorem dX2_init_28 : decode cX2_init 28 = .ok (.aload_n 0, 1) := by decide +kernel
theorem dX2_init_29 : decode cX2_init 29 = .ok (.getfield 9, 3) := by decide +kernel
theorem dX2_init_32 : decode cX2_init 32 = .ok (.iload_n 1, 1) := by decide +kernel
theorem dX2_init_33 : decode cX2_init 33 = .ok (.bipush 40, 2) := by decide +kernel
theorem dX2_init_35 : decode cX2_init 35 = .ok (.iload_n 1, 1) := by decide +kernel
theorem dX2_init_36 : decode cX2_init 36 = .ok (.imul, 1) := by decide +kernel
theorem dX2_init_37 : decode cX2_init 37 = .ok (.iastore, 1) := by decide +kernel
theorem dX2_init_38 : decode cX2_init 38 = .ok (.aload_n 0, 1) := by decide +kernel
theorem dX2_init_39 : decode cX2_init 39 = .ok (.getfield 15, 3) := by decide +kernel
theorem dX2_init_42 : decode cX2_init 42 = .ok (.iload_n 1, 1) := by decide +kernel
theorem dX2_init_43 : decode cX2_init 43 = .ok (.bipush 40, 2) := by decide +kernel
theorem dX2_init_45 : decode cX2_init 45 = .ok (.iload_n 1, 1) := by decide +kernel
theorem dX2_init_46 : decode cX2_init 46 = .ok (.imul, 1) := by decide +kernel
theorem dX2_init_47 : decode cX2_init 47 = .ok (.bipush 20, 2) := by decide +kernel
theorem dX2_init_49 : decode cX2_init 49 = .ok (.iadd, 1) := by decide +kernel
theorem dX2_init_50 : decode cX2_init 50 = .ok (.iastore, 1) := by decide +kernel
theorem dX2_init_51 : decode cX2_init 51 = .ok (.iinc 1 1, 3) := by decide +kernel
theorem dX2_init_54 : decode cX2_init 54 = .ok (.goto (-32), 3) := by decide +kernel
theorem dX2_init_57 : decode cX2_init 57 = .ok (.return_, 1) := by decide +kernel
theorem dX2_change_0 : decode cX2_change 0 = .ok (.aload_n 0, 1) := by decide +kernel
theorem dX2_change_1 : decode cX2_change 1 = .ok (.getfield 9, 3) := by decide +kernel
theorem dX2_change_4 : decode cX2_change 4 = .ok (.iload_n 1, 1) := by decide +kernel
theorem dX2_change_5 : decode cX2_change 5 = .ok (.iload_n 2, 1) := by decide +kernel
theorem dX2_change_6 : decode cX2_change 6 = .ok (.iastore, 1) := by decide +kernel
theorem dX2_change_7 : decode cX2_change 7 = .ok (.aload_n 0, 1) := by decide +kernel
theorem dX2_change_8 : decode cX2_change 8 = .ok (.getfield 15, 3) := by decide +kernel
theorem dX2_change_11 : decode cX2_change 11 = .ok (.iload_n 1, 1) := by decide +kernel
theorem dX2_change_12 : decode cX2_change 12 = .ok (.iload_n 3, 1) := by decide +kernel
theorem dX2_change_13 : decode cX2_change 13 = .ok (.iastore, 1) := by decide +kernel
theorem dX2_change_14 : decode cX2_change 14 = .ok (.return_, 1) := by decide +kernel
set_option maxRecDepth 20000 in
theorem ggX2_shift_J9_floorMod_7cf53 : GoodIn wsX2_shift wsJ9_floorMod_7cf53 := goodIn_r _ [6] (by decide +kernel) (by decide +kernel)
set_option maxRecDepth 20000 in
theorem gX2_shift_J9_floorMod_7cf53 : GoodIn wsX2_shift (va_wsS RX2 18 yJ9_floorMod_7cf53 wsJ9_floorMod_7cf53) := goodIn_app (goodIn_of _ (by decide +kernel)) ggX2_shift_J9_floorMod_7cf53
theorem dX2_shift_0 : decode cX2_shift 0 = .ok (.iconst 0, 1) := by decide +kernel
theorem dX2_shift_1 : decode cX2_shift 1 = .ok (.istore_n 2, 1) := by decide +kernel
theorem dX2_shift_2 : decode cX2_shift 2 = .ok (.iload_n 2, 1) := by decide +kernel
theorem dX2_shift_3 : decode cX2_shift 3 = .ok (.bipush 8, 2) := by decide +kernel
theorem dX2_shift_5 : decode cX2_shift 5 = .ok (.if_icmp .ge 49, 3) := by decide +kernel
theorem dX2_shift_8 : decode cX2_shift 8 = .ok (.aload_n 0, 1) := by decide +kernel
theorem dX2_shift_9 : decode cX2_shift 9 = .ok (.getfield 9, 3) := by decide +kernel
theorem dX2_shift_12 : decode cX2_shift 12 = .ok (.iload_n 2, 1) := by decide +kernel
theorem dX2_shift_13 : decode cX2_shift 13 = .ok (.aload_n 0, 1) := by decide +kernel
theorem dX2_shift_14 : decode cX2_shift 14 = .ok (.getfield 9, 3) := by decide +kernel
theorem dX2_shift_17 : decode cX2_shift 17 = .ok (.iload_n 2, 1) := by decide +kernel
theorem dX2_shift_18 : decode cX2_shift 18 = .ok (.iaload, 1) := by decide +kernel
theorem dX2_shift_19 : decode cX2_shift 19 = .ok (.iload_n 1, 1) := by decide +kernel
theorem dX2_shift_20 : decode cX2_shift 20 = .ok (.iadd, 1) := by decide +kernel
theorem dX2_shift_21 : decode cX2_shift 21 = .ok (.sipush 360, 3) := by decide +kernel
theorem dX2_shift_24 : decode cX2_shift 24 = .ok (.invokestatic 18, 3) := by decide +kernel
theorem dX2_shift_27 : decode cX2_shift 27 = .ok (.iastore, 1) := by decide +kernel
theorem dX2_shift_28 : decode cX2_shift 28 = .ok (.aload_n 0, 1) := by decide +kernel
theorem dX2_shift_29 : decode cX2_shift 29 = .ok (.getfield 15, 3) := by decide +kernel
theorem dX2_shift_32 : decode cX2_shift 32 = .ok (.iload_n 2, 1) := by decide +kernel
theorem dX2_shift_33 : decode cX2_shift 33 = .ok (.aload_n 0, 1) := by decide +kernel
theorem dX2_shift_34 : decode cX2_shift 34 = .ok (.getfield 15, 3) := by decide +kernel
theorem dX2_shift_37 : decode cX2_shift 37 = .ok (.iload_n 2, 1) := by decide +kernel
theorem dX2_shift_38 : decode cX2_shift 38 = .ok (.iaload, 1) := by decide +kernel
theorem dX2_shift_39 : decode cX2_shift 39 = .ok (.iload_n 1, 1) := by decide +kernel
theorem dX2_shift_40 : decode cX2_shift 40 = .ok (.iadd, 1) := by decide +kernel
theorem dX2_shift_41 : decode cX2_shift 41 = .ok (.sipush 360, 3) := by decide +kernel
theorem dX2_shift_44 : decode cX2_shift 44 = .ok (.invokestatic 18, 3) := by decide +kernel
theorem dX2_shift_47 : decode cX2_shift 47 = .ok (.iastore, 1) := by decide +kernel
theorem dX2_shift_48 : decode cX2_shift 48 = .ok (.iinc 2 1, 3) := by decide +kernel
theorem dX2_shift_51 : decode cX2_shift 51 = .ok (.goto (-49), 3) := by decide +kernel
theorem dX2_shift_54 : decode cX2_shift 54 = .ok (.return_, 1) := by decide +kernel
theorem dX2_become_0 : decode cX2_become 0 = .ok (.iconst 0, 1) := by decide +kernel
theorem dX2_become_1 : decode cX2_become 1 = .ok (.istore_n 2, 1) := by decide +kernel
theorem dX2_become_2 : decode cX2_become 2 = .ok (.iload_n 2, 1) := by decide +kernel
theorem dX2_become_3 : decode cX2_become 3 = .ok (.bipush 8, 2) := by decide +kernel
theorem dX2_become_5 : decode cX2_become 5 = .ok (.if_icmp .ge 33, 3) := by decide +kernel
theorem dX2_become_8 : decode cX2_become 8 = .ok (.aload_n 0, 1) := by decide +kernel
theorem dX2_become_9 : decode cX2_become 9 = .ok (.getfield 9, 3) := by decide +kernel
theorem dX2_become_12 : decode cX2_become 12 = .ok (.iload_n 2, 1) := by decide +kernel
theorem dX2_become_13 : decode cX2_become 13 = .ok (.aload_n 1, 1) := by decide +kernel
theorem dX2_become_14 : decode cX2_become 14 = .ok (.getfield 9, 3) := by decide +kernel
theorem dX2_become_17 : decode cX2_become 17 = .ok (.iload_n 2, 1) := by decide +kernel
theorem dX2_become_18 : decode cX2_become 18 = .ok (.iaload, 1) := by decide +kernel
theorem dX2_become_19 : decode cX2_become 19 = .ok (.iastore, 1) := by decide +kernel
theorem dX2_become_20 : decode cX2_become 20 = .ok (.aload_n 0, 1) := by decide +kernel
theorem dX2_become_21 : decode cX2_become 21 = .ok (.getfield 15, 3) := by decide +kernel
theorem dX2_become_24 : decode cX2_become 24 = .ok (.iload_n 2, 1) := by decide +kernel
theorem dX2_become_25 : decode cX2_become 25 = .ok (.aload_n 1, 1) := by decide +kernel
theorem dX2_become_26 : decode cX2_become 26 = .ok (.getfield 15, 3) := by decide +kernel
theorem dX2_become_29 : decode cX2_become 29 = .ok (.iload_n 2, 1) := by decide +kernel
theorem dX2_become_30 : decode cX2_become 30 = .ok (.iaload, 1) := by decide +kernel
theorem dX2_become_31 : decode cX2_become 31 = .ok (.iastore, 1) := by decide +kernel
theorem dX2_become_32 : decode cX2_become 32 = .ok (.iinc 2 1, 3) := by decide +kernel
theorem dX2_become_35 : decode cX2_become 35 = .ok (.goto (-33), 3) := by decide +kernel
theorem dX2_become_38 : decode cX2_become 38 = .ok (.return_, 1) := by decide +kernel
set_option maxRecDepth 20000 in
theorem ggX2_length_X9_wayUp : GoodIn wsX2_length wsX9_wayUp := goodIn_r _ [5] (by decide +kernel) (by decide +kernel)
set_option maxRecDepth 20000 in
theorem gX2_length_X9_wayUp_n24 : GoodIn wsX2_length (wsX9_wayUp) := ggX2_length_X9_wayUp
theorem dX2_length_0 : decode cX2_length 0 = .ok (.aload_n 0, 1) := by decide +kernel
theorem dX2_length_1 : decode cX2_length 1 = .ok (.getfield 9, 3) := by decide +kernel
theorem dX2_length_4 : decode cX2_length 4 = .ok (.iload_n 1, 1) := by decide +kernel
theorem dX2_length_5 : decode cX2_length 5 = .ok (.iaload, 1) := by decide +kernel
theorem dX2_length_6 : decode cX2_length 6 = .ok (.aload_n 0, 1) := by decide +kernel
theorem dX2_length_7 : decode cX2_length 7 = .ok (.getfield 15, 3) := by decide +kernel
theorem dX2_length_10 : decode cX2_length 10 = .ok (.iload_n 1, 1) := by decide +kernel
theorem dX2_length_11 : decode cX2_length 11 = .ok (.iaload, 1) := by decide +kernel
theorem dX2_length_12 : decode cX2_length 12 = .ok (.invokestatic 24, 3) := by decide +kernel
theorem dX2_length_15 : decode cX2_length 15 = .ok (.ireturn, 1) := by decide +kernel
set_option maxRecDepth 20000 in
theorem ggX2_isDone_X9_wayUp : GoodIn wsX2_isDone wsX9_wayUp := goodIn_r _ [4] (by decide +kernel) (by decide +kernel)
set_option maxRecDepth 20000 in
theorem gX2_isDone_X9_wayUp_n24 : GoodIn wsX2_isDone (wsX9_wayUp) := ggX2_isDone_X9_wayUp
set_option maxRecDepth 20000 in
theorem ggX2_isDone_X2_length : GoodIn wsX2_isDone wsX2_length := goodIn_r _ [9, 1, 10, 2, 3, 4, 11, 12] (by decide +kernel) (by decide +kernel)
set_option maxRecDepth 20000 in
theorem gX2_isDone_X2_length : GoodIn wsX2_isDone (wsV RX2 27 RX2 yX2_length wsX2_length) := goodIn_app (goodIn_of _ (by decide +kernel)) ggX2_isDone_X2_length
theorem dX2_isDone_0 : decode cX2_isDone 0 = .ok (.aload_n 0, 1) := by decide +kernel
theorem dX2_isDone_1 : decode cX2_isDone 1 = .ok (.getfield 9, 3) := by decide +kernel
theorem dX2_isDone_4 : decode cX2_isDone 4 = .ok (.iload_n 1, 1) := by decide +kernel
theorem dX2_isDone_5 : decode cX2_isDone 5 = .ok (.iaload, 1) := by decide +kernel
theorem dX2_isDone_6 : decode cX2_isDone 6 = .ok (.iload_n 2, 1) := by decide +kernel
theorem dX2_isDone_7 : decode cX2_isDone 7 = .ok (.invokestatic 24, 3) := by decide +kernel
theorem dX2_isDone_10 : decode cX2_isDone 10 = .ok (.aload_n 0, 1) := by decide +kernel
theorem dX2_isDone_11 : decode cX2_isDone 11 = .ok (.iload_n 1, 1) := by decide +kernel
theorem dX2_isDone_12 : decode cX2_isDone 12 = .ok (.invokevirtual 27, 3) := by decide +kernel
theorem dX2_isDone_15 : decode cX2_isDone 15 = .ok (.if_icmp .ge 7, 3) := by decide +kernel
theorem dX2_isDone_18 : decode cX2_isDone 18 = .ok (.iconst 1, 1) := by decide +kernel
theorem dX2_isDone_19 : decode cX2_isDone 19 = .ok (.goto 4, 3) := by decide +kernel
theorem dX2_isDone_22 : decode cX2_isDone 22 = .ok (.iconst 0, 1) := by decide +kernel
theorem dX2_isDone_23 : decode cX2_isDone 23 = .ok (.ireturn, 1) := by decide +kernel
set_option maxRecDepth 20000 in
theorem ggX2_isInside_X9_wayUp : GoodIn wsX2_isInside wsX9_wayUp := goodIn_r _ [4] (by decide +kernel) (by decide +kernel)
set_option maxRecDepth 20000 in
theorem gX2_isInside_X9_wayUp_n24 : GoodIn wsX2_isInside (wsX9_wayUp) := ggX2_isInside_X9_wayUp
set_option maxRecDepth 20000 in
theorem ggX2_isInside_X2_length : GoodIn wsX2_isInside wsX2_length := goodIn_r _ [9, 1, 10, 2, 3, 4, 11, 12] (by decide +kernel) (by decide +kernel)
set_option maxRecDepth 20000 in
theorem gX2_isInside_X2_length : GoodIn wsX2_isInside (wsV RX2 27 RX2 yX2_length wsX2_length) := goodIn_app (goodIn_of _ (by decide +kernel)) ggX2_isInside_X2_length
theorem dX2_isInside_0 : decode cX2_isInside 0 = .ok (.aload_n 0, 1) := by decide +kernel
theorem dX2_isInside_1 : decode cX2_isInside 1 = .ok (.getfield 9, 3) := by decide +kernel
theorem dX2_isInside_4 : decode cX2_isInside 4 = .ok (.iload_n 2, 1) := by decide +kernel
theorem dX2_isInside_5 : decode cX2_isInside 5 = .ok (.iaload, 1) := by decide +kernel
theorem dX2_isInside_6 : decode cX2_isInside 6 = .ok (.aload_n 0, 1) := by decide +kernel
theorem dX2_isInside_7 : decode cX2_isInside 7 = .ok (.getfield 9, 3) := by decide +kernel
theorem dX2_isInside_10 : decode cX2_isInside 10 = .ok (.iload_n 1, 1) := by decide +kernel
theorem dX2_isInside_11 : decode cX2_isInside 11 = .ok (.iaload, 1) := by decide +kernel
theorem dX2_isInside_12 : decode cX2_isInside 12 = .ok (.invokestatic 24, 3) := by decide +kernel
theorem dX2_isInside_15 : decode cX2_isInside 15 = .ok (.aload_n 0, 1) := by decide +kernel
theorem dX2_isInside_16 : decode cX2_isInside 16 = .ok (.iload_n 1, 1) := by decide +kernel
theorem dX2_isInside_17 : decode cX2_isInside 17 = .ok (.invokevirtual 27, 3) := by decide +kernel
theorem dX2_isInside_20 : decode cX2_isInside 20 = .ok (.iadd, 1) := by decide +kernel
theorem dX2_isInside_21 : decode cX2_isInside 21 = .ok (.aload_n 0, 1) := by decide +kernel
theorem dX2_isInside_22 : decode cX2_isInside 22 = .ok (.iload_n 2, 1) := by decide +kernel
theorem dX2_isInside_23 : decode cX2_isInside 23 = .ok (.invokevirtual 27, 3) := by decide +kernel
theorem dX2_isInside_26 : decode cX2_isInside 26 = .ok (.if_icmp .gt 7, 3) := by decide +kernel
theorem dX2_isInside_29 : decode cX2_isInside 29 = .ok (.iconst 1, 1) := by decide +kernel
theorem dX2_isInside_30 : decode cX2_isInside 30 = .ok (.goto 4, 3) := by decide +kernel
theorem dX2_isInside_33 : decode cX2_isInside 33 = .ok (.iconst 0, 1) := by decide +kernel
theorem dX2_isInside_34 : decode cX2_isInside 34 = .ok (.ireturn, 1) := by decide +kernel
set_option maxRecDepth 20000 in
theorem ggX3_init_X2_init : GoodIn wsX3_init wsX2_init := goodIn_r _ [17, 18, 2, 3, 19, 20, 21, 34, 35] (by decide +kernel) (by decide +kernel)
set_option maxRecDepth 20000 in
theorem gX3_init_X2_init : GoodIn wsX3_init (wsX2_init) := ggX3_init_X2_init
set_option maxRecDepth 20000 in
theorem ggX3_init_X8_init : GoodIn wsX3_init wsX8_init := goodIn_r _ [23, 24, 2, 3, 25, 26, 27, 28, 36, 37, 38, 39] (by decide +kernel) (by decide +kernel)
set_option maxRecDepth 20000 in
theorem gX3_init_X8_init_n35 : GoodIn wsX3_init (wsX8_init) := ggX3_init_X8_init
theorem dX3_init_0 : decode cX3_init 0 = .ok (.aload_n 0, 1) := by decide +kernel
theorem dX3_init_1 : decode cX3_init 1 = .ok (.invokespecial 3, 3) := by decide +kernel
theorem dX3_init_4 : decode cX3_init 4 = .ok (.aload_n 0, 1) := by decide +kernel
theorem dX3_init_5 : decode cX3_init 5 = .ok (.bipush 6, 2) := by decide +kernel
theorem dX3_init_7 : decode cX3_init 7 = .ok (.anewarray 9, 3) := by decide +kernel
theorem dX3_init_10 : decode cX3_init 10 = .ok (.putfield 11, 3) := by decide +kernel
theorem dX3_init_13 : decode cX3_init 13 = .ok (.aload_n 0, 1) := by decide +kernel
theorem dX3_init_14 : decode cX3_init 14 = .ok (.bipush 16, 2) := by decide +kernel
theorem dX3_init_16 : decode cX3_init 16 = .ok (.anewarray 17, 3) := by decide +kernel
theorem dX3_init_19 : decode cX3_init 19 = .ok (.putfield 19, 3) := by decide +kernel
theorem dX3_init_22 : decode cX3_init 22 = .ok (.aload_n 0, 1) := by decide +kernel
theorem dX3_init_23 : decode cX3_init 23 = .ok (.new 9, 3) := by decide +kernel
theorem dX3_init_26 : decode cX3_init 26 = .ok (.dup, 1) := by decide +kernel
theorem dX3_init_27 : decode cX3_init 27 = .ok (.invokespecial 23, 3) := by decide +kernel
theorem dX3_init_30 : decode cX3_init 30 = .ok (.putfield 24, 3) := by decide +kernel
theorem dX3_init_33 : decode cX3_init 33 = .ok (.aload_n 0, 1) := by decide +kernel
theorem dX3_init_34 : decode cX3_init 34 = .ok (.iconst 0, 1) := by decide +kernel
theorem dX3_init_35 : decode cX3_init 35 = .ok (.putfield 28, 3) := by decide +kernel
theorem dX3_init_38 : decode cX3_init 38 = .ok (.aload_n 0, 1) := by decide +kernel
theorem dX3_init_39 : decode cX3_init 39 = .ok (.bipush 10, 2) := by decide +kernel
theorem dX3_init_41 : decode cX3_init 41 = .ok (.putfield 32, 3) := by decide +kernel
theorem dX3_init_44 : decode cX3_init 44 = .ok (.iconst 0, 1) := by decide +kernel
theorem dX3_init_45 : decode cX3_init 45 = .ok (.istore_n 1, 1) := by decide +kernel
theorem dX3_init_46 : decode cX3_init 46 = .ok (.iload_n 1, 1) := by decide +kernel
theorem dX3_init_47 : decode cX3_init 47 = .ok (.bipush 6, 2) := by decide +kernel
theorem dX3_init_49 : decode cX3_init 49 = .ok (.if_icmp .ge 22, 3) := by decide +kernel
theorem dX3_init_52 : decode cX3_init 52 = .ok (.aload_n 0, 1) := by decide +kernel
theorem dX3_init_53 : decode cX3_init 53 = .ok (.getfield 11, 3) := by decide +kernel
theorem dX3_init_56 : decode cX3_init 56 = .ok (.iload_n 1, 1) := by decide +kernel
theorem dX3_init_57 : decode cX3_init 57 = .ok (.new 9, 3) := by decide +kernel
theorem dX3_init_60 : decode cX3_init 60 = .ok (.dup, 1) := by decide +kernel
theorem dX3_init_61 : decode cX3_init 61 = .ok (.invokespecial 23, 3) := by decide +kernel
theorem dX3_init_64 : decode cX3_init 64 = .ok (.aastore, 1) := by decide +kernel
theorem dX3_init_65 : decode cX3_init 65 = .ok (.iinc 1 1, 3) := by decide +kernel
theorem dX3_init_68 : decode cX3_init 68 = .ok (.goto (-22), 3) := by decide +kernel
theorem dX3_init_71 : decode cX3_init 71 = .ok (.iconst 0, 1) := by decide +kernel
theorem dX3_init_72 : decode cX3_init 72 = .ok (.istore_n 1, 1) := by decide +kernel
theorem dX3_init_73 : decode cX3_init 73 = .ok (.iload_n 1, 1) := by decide +kernel
theorem dX3_init_74 : decode cX3_init 74 = .ok (.bipush 16, 2) := by decide +kernel
theorem dX3_init_76 : decode cX3_init 76 = .ok (.if_icmp .ge 22, 3) := by decide +kernel
theorem dX3_init_79 : decode cX3_init 79 = .ok (.aload_n 0, 1) := by decide +kernel
theorem dX3_init_80 : decode cX3_init 80 = .ok (.getfield 19, 3) := by decide +kernel
theorem dX3_init_83 : decode cX3_init 83 = .ok (.iload_n 1, 1) := by decide +kernel
theorem dX3_init_84 : decode cX3_init 84 = .ok (.new 17, 3) := by decide +kernel
theorem dX3_init_87 : decode cX3_init 87 = .ok (.dup, 1) := by decide +kernel
theorem dX3_init_88 : decode cX3_init 88 = .ok (.invokespecial 35, 3) := by decide +kernel
theorem dX3_init_91 : decode cX3_init 91 = .ok (.aastore, 1) := by decide +kernel
theorem dX3_init_92 : decode cX3_init 92 = .ok (.iinc 1 1, 3) := by decide +kernel
theorem dX3_init_95 : decode cX3_init 95 = .ok (.goto (-22), 3) := by decide +kernel
theorem dX3_init_98 : decode cX3_init 98 = .ok (.return_, 1) := by decide +kernel
set_option maxRecDepth 20000 in
theorem ggX3_brokenIf_X2_become : GoodIn wsX3_brokenIf wsX2_become := goodIn_r _ [10, 11, 12, 49, 50] (by decide +kernel) (by decide +kernel)
set_option maxRecDepth 20000 in
theorem gX3_brokenIf_X2_become : GoodIn wsX3_brokenIf (wsV RX3 36 RX2 yX2_become wsX2_become) := goodIn_app (goodIn_of _ (by decide +kernel)) ggX3_brokenIf_X2_become
set_option maxRecDepth 20000 in
theorem ggX3_brokenIf_X2_change : GoodIn wsX3_brokenIf wsX2_change := goodIn_r _ [16, 11, 12, 49, 50] (by decide +kernel) (by decide +kernel)
set_option maxRecDepth 20000 in
theorem gX3_brokenIf_X2_change : GoodIn wsX3_brokenIf (wsV RX3 40 RX2 yX2_change wsX2_change) := goodIn_app (goodIn_of _ (by decide +kernel)) ggX3_brokenIf_X2_change
set_option maxRecDepth 20000 in
theorem ggX3_brokenIf_X8_isBroken : GoodIn wsX3_brokenIf wsX8_isBroken := goodIn_r _ [21, 22, 23, 24, 25, 26, 27, 28, 29, 30, 31, 32, 33, 9, 34, 11, 35, 36, 37, 38, 12, 39, 40, 41, 42, 43, 51, 52, 53, 54, 49, 50] (by decide +kernel) (by decide +kernel)
set_option maxRecDepth 20000 in
theorem gX3_brokenIf_X8_isBroken : GoodIn wsX3_brokenIf (wsV RX3 44 RX8 yX8_isBroken wsX8_isBroken) := goodIn_app (goodIn_of _ (by decide +kernel)) ggX3_brokenIf_X8_isBroken
theorem dX3_brokenIf_0 : decode cX3_brokenIf 0 = .ok (.aload_n 0, 1) := by decide +kernel
theorem dX3_brokenIf_1 : decode cX3_brokenIf 1 = .ok (.getfield 24, 3) := by decide +kernel
theorem dX3_brokenIf_4 : decode cX3_brokenIf 4 = .ok (.aload_n 0, 1) := by decide +kernel
theorem dX3_brokenIf_5 : decode cX3_brokenIf 5 = .ok (.getfield 11, 3) := by decide +kernel
theorem dX3_brokenIf_8 : decode cX3_brokenIf 8 = .ok (.iload_n 1, 1) := by decide +kernel
theorem dX3_brokenIf_9 : decode cX3_brokenIf 9 = .ok (.aaload, 1) := by decide +kernel
theorem dX3_brokenIf_10 : decode cX3_brokenIf 10 = .ok (.invokevirtual 36, 3) := by decide +kernel
theorem dX3_brokenIf_13 : decode cX3_brokenIf 13 = .ok (.aload_n 0, 1) := by decide +kernel
theorem dX3_brokenIf_14 : decode cX3_brokenIf 14 = .ok (.getfield 24, 3) := by decide +kernel
theorem dX3_brokenIf_17 : decode cX3_brokenIf 17 = .ok (.iload_n 2, 1) := by decide +kernel
theorem dX3_brokenIf_18 : decode cX3_brokenIf 18 = .ok (.iload_n 3, 1) := by decide +kernel
theorem dX3_brokenIf_19 : decode cX3_brokenIf 19 = .ok (.iload 4, 2) := by decide +kernel
theorem dX3_brokenIf_21 : decode cX3_brokenIf 21 = .ok (.invokevirtual 40, 3) := by decide +kernel
theorem dX3_brokenIf_24 : decode cX3_brokenIf 24 = .ok (.iconst 0, 1) := by decide +kernel
theorem dX3_brokenIf_25 : decode cX3_brokenIf 25 = .ok (.istore 5, 2) := by decide +kernel
theorem dX3_brokenIf_27 : decode cX3_brokenIf 27 = .ok (.iload 5, 2) := by decide +kernel
theorem dX3_brokenIf_29 : decode cX3_brokenIf 29 = .ok (.aload_n 0, 1) := by decide +kernel
theorem dX3_brokenIf_30 : decode cX3_brokenIf 30 = .ok (.getfield 28, 3) := by decide +kernel
theorem dX3_brokenIf_33 : decode cX3_brokenIf 33 = .ok (.if_icmp .ge 33, 3) := by decide +kernel
theorem dX3_brokenIf_36 : decode cX3_brokenIf 36 = .ok (.aload_n 0, 1) := by decide +kernel
theorem dX3_brokenIf_37 : decode cX3_brokenIf 37 = .ok (.getfield 19, 3) := by decide +kernel
theorem dX3_brokenIf_40 : decode cX3_brokenIf 40 = .ok (.iload 5, 2) := by decide +kernel
theorem dX3_brokenIf_42 : decode cX3_brokenIf 42 = .ok (.aaload, 1) := by decide +kernel
theorem dX3_brokenIf_43 : decode cX3_brokenIf 43 = .ok (.aload_n 0, 1) := by decide +kernel
theorem dX3_brokenIf_44 : decode cX3_brokenIf 44 = .ok (.getfield 24, 3) := by decide +kernel
theorem dX3_brokenIf_47 : decode cX3_brokenIf 47 = .ok (.aload_n 0, 1) := by decide +kernel
theorem dX3_brokenIf_48 : decode cX3_brokenIf 48 = .ok (.getfield 32, 3) := by decide +kernel
theorem dX3_brokenIf_51 : decode cX3_brokenIf 51 = .ok (.invokevirtual 44, 3) := by decide +kernel
theorem dX3_brokenIf_54 : decode cX3_brokenIf 54 = .ok (.ifCond .eq 6, 3) := by decide +kernel
theorem dX3_brokenIf_57 : decode cX3_brokenIf 57 = .ok (.iload 5, 2) := by decide +kernel
theorem dX3_brokenIf_59 : decode cX3_brokenIf 59 = .ok (.ireturn, 1) := by decide +kernel
theorem dX3_brokenIf_60 : decode cX3_brokenIf 60 = .ok (.iinc 5 1, 3) := by decide +kernel
theorem dX3_brokenIf_63 : decode cX3_brokenIf 63 = .ok (.goto (-36), 3) := by decide +kernel
theorem dX3_brokenIf_66 : decode cX3_brokenIf 66 = .ok (.iconst (-1), 1) := by decide +kernel
theorem dX3_brokenIf_67 : decode cX3_brokenIf 67 = .ok (.ireturn, 1) := by decide +kernel
set_option maxRecDepth 20000 in
theorem ggX3_brokenAt_X3_anyBreaks : GoodIn wsX3_brokenAt wsX3_anyBreaks := goodIn_r _ [6, 7, 8, 9, 10, 11, 12, 13, 14, 15, 16, 17, 18, 19, 20, 21, 22, 23, 24, 25, 26, 27, 28, 29, 30, 31, 32, 33, 34, 35, 36, 37, 38, 39, 40, 41, 42, 43, 44, 45, 46, 47, 48, 49] (by decide +kernel) (by decide +kernel)
set_option maxRecDepth 20000 in
theorem gX3_brokenAt_X3_anyBreaks : GoodIn wsX3_brokenAt (wsV RX3 48 RX3 yX3_anyBreaks wsX3_anyBreaks) := goodIn_app (goodIn_of _ (by decide +kernel)) ggX3_brokenAt_X3_anyBreaks
theorem dX3_brokenAt_0 : decode cX3_brokenAt 0 = .ok (.iconst 0, 1) := by decide +kernel
theorem dX3_brokenAt_1 : decode cX3_brokenAt 1 = .ok (.istore_n 2, 1) := by decide +kernel
theorem dX3_brokenAt_2 : decode cX3_brokenAt 2 = .ok (.iload_n 2, 1) := by decide +kernel
theorem dX3_brokenAt_3 : decode cX3_brokenAt 3 = .ok (.aload_n 0, 1) := by decide +kernel
theorem dX3_brokenAt_4 : decode cX3_brokenAt 4 = .ok (.getfield 28, 3) := by decide +kernel
theorem dX3_brokenAt_7 : decode cX3_brokenAt 7 = .ok (.if_icmp .ge 20, 3) := by decide +kernel
theorem dX3_brokenAt_10 : decode cX3_brokenAt 10 = .ok (.aload_n 0, 1) := by decide +kernel
theorem dX3_brokenAt_11 : decode cX3_brokenAt 11 = .ok (.iload_n 2, 1) := by decide +kernel
theorem dX3_brokenAt_12 : decode cX3_brokenAt 12 = .ok (.iload_n 1, 1) := by decide +kernel
theorem dX3_brokenAt_13 : decode cX3_brokenAt 13 = .ok (.invokevirtual 48, 3) := by decide +kernel
theorem dX3_brokenAt_16 : decode cX3_brokenAt 16 = .ok (.ifCond .eq 5, 3) := by decide +kernel
theorem dX3_brokenAt_19 : decode cX3_brokenAt 19 = .ok (.iload_n 2, 1) := by decide +kernel
theorem dX3_brokenAt_20 : decode cX3_brokenAt 20 = .ok (.ireturn, 1) := by decide +kernel
theorem dX3_brokenAt_21 : decode cX3_brokenAt 21 = .ok (.iinc 2 1, 3) := by decide +kernel
theorem dX3_brokenAt_24 : decode cX3_brokenAt 24 = .ok (.goto (-22), 3) := by decide +kernel
theorem dX3_brokenAt_27 : decode cX3_brokenAt 27 = .ok (.iconst (-1), 1) := by decide +kernel
theorem dX3_brokenAt_28 : decode cX3_brokenAt 28 = .ok (.ireturn, 1) := by decide +kernel
set_option maxRecDepth 20000 in
theorem ggX3_anyBreaks_X8_isBroken : GoodIn wsX3_anyBreaks wsX8_isBroken := goodIn_r _ [7, 8, 9, 10, 11, 12, 13, 14, 15, 16, 17, 18, 19, 20, 21, 22, 23, 24, 25, 26, 27, 28, 29, 30, 31, 32, 38, 39, 40, 41, 42, 43] (by decide +kernel) (by decide +kernel)
set_option maxRecDepth 20000 in
theorem gX3_anyBreaks_X8_isBroken : GoodIn wsX3_anyBreaks (wsV RX3 44 RX8 yX8_isBroken wsX8_isBroken) := goodIn_app (goodIn_of _ (by decide +kernel)) ggX3_anyBreaks_X8_isBroken
theorem dX3_anyBreaks_0 : decode cX3_anyBreaks 0 = .ok (.iconst 0, 1) := by decide +kernel
theorem dX3_anyBreaks_1 : decode cX3_anyBreaks 1 = .ok (.istore_n 3, 1) := by decide +kernel
theorem dX3_anyBreaks_2 : decode cX3_anyBreaks 2 = .ok (.iload_n 3, 1) := by decide +kernel
theorem dX3_anyBreaks_3 : decode cX3_anyBreaks 3 = .ok (.bipush 6, 2) := by decide +kernel
theorem dX3_anyBreaks_5 : decode cX3_anyBreaks 5 = .ok (.if_icmp .ge 30, 3) := by decide +kernel
theorem dX3_anyBreaks_8 : decode cX3_anyBreaks 8 = .ok (.aload_n 0, 1) := by decide +kernel
theorem dX3_anyBreaks_9 : decode cX3_anyBreaks 9 = .ok (.getfield 19, 3) := by decide +kernel
theorem dX3_anyBreaks_12 : decode cX3_anyBreaks 12 = .ok (.iload_n 1, 1) := by decide +kernel
theorem dX3_anyBreaks_13 : decode cX3_anyBreaks 13 = .ok (.aaload, 1) := by decide +kernel
theorem dX3_anyBreaks_14 : decode cX3_anyBreaks 14 = .ok (.aload_n 0, 1) := by decide +kernel
theorem dX3_anyBreaks_15 : decode cX3_anyBreaks 15 = .ok (.getfield 11, 3) := by decide +kernel
theorem dX3_anyBreaks_18 : decode cX3_anyBreaks 18 = .ok (.iload_n 3, 1) := by decide +kernel
theorem dX3_anyBreaks_19 : decode cX3_anyBreaks 19 = .ok (.aaload, 1) := by decide +kernel
theorem dX3_anyBreaks_20 : decode cX3_anyBreaks 20 = .ok (.iload_n 2, 1) := by decide +kernel
theorem dX3_anyBreaks_21 : decode cX3_anyBreaks 21 = .ok (.invokevirtual 44, 3) := by decide +kernel
theorem dX3_anyBreaks_24 : decode cX3_anyBreaks 24 = .ok (.ifCond .eq 5, 3) := by decide +kernel
theorem dX3_anyBreaks_27 : decode cX3_anyBreaks 27 = .ok (.iconst 1, 1) := by decide +kernel
theorem dX3_anyBreaks_28 : decode cX3_anyBreaks 28 = .ok (.ireturn, 1) := by decide +kernel
theorem dX3_anyBreaks_29 : decode cX3_anyBreaks 29 = .ok (.iinc 3 1, 3) := by decide +kernel
theorem dX3_anyBreaks_32 : decode cX3_anyBreaks 32 = .ok (.goto (-30), 3) := by decide +kernel
theorem dX3_anyBreaks_35 : decode cX3_anyBreaks 35 = .ok (.iconst 0, 1) := by decide +kernel
theorem dX3_anyBreaks_36 : decode cX3_anyBreaks 36 = .ok (.ireturn, 1) := by decide +kernel
set_option maxRecDepth 20000 in
theorem ggX3_greatestPace_X8_greatestPace : GoodIn wsX3_greatestPace wsX8_greatestPace := goodIn_r _ [12, 13, 14, 15, 16, 17, 18, 19, 20, 21, 22, 23, 24, 25, 31, 32, 33, 34, 35, 36] (by decide +kernel) (by decide +kernel)
set_option maxRecDepth 20000 in
theorem gX3_greatestPace_X8_greatestPace : GoodIn wsX3_greatestPace (wsV RX3 52 RX8 yX8_greatestPace wsX8_greatestPace) := goodIn_app (goodIn_of _ (by decide +kernel)) ggX3_greatestPace_X8_greatestPace
theorem dX3_greatestPace_0 : decode cX3_greatestPace 0 = .ok (.bipush 60, 2) := by decide +kernel
theorem dX3_greatestPace_2 : decode cX3_greatestPace 2 = .ok (.istore_n 1, 1) := by decide +kernel
theorem dX3_greatestPace_3 : decode cX3_greatestPace 3 = .ok (.iconst 0, 1) := by decide +kernel
theorem dX3_greatestPace_4 : decode cX3_greatestPace 4 = .ok (.istore_n 2, 1) := by decide +kernel
theorem dX3_greatestPace_5 : decode cX3_greatestPace 5 = .ok (.iload_n 2, 1) := by decide +kernel
theorem dX3_greatestPace_6 : decode cX3_greatestPace 6 = .ok (.aload_n 0, 1) := by decide +kernel
theorem dX3_greatestPace_7 : decode cX3_greatestPace 7 = .ok (.getfield 28, 3) := by decide +kernel
theorem dX3_greatestPace_10 : decode cX3_greatestPace 10 = .ok (.if_icmp .ge 43, 3) := by decide +kernel
theorem dX3_greatestPace_13 : decode cX3_greatestPace 13 = .ok (.iconst 0, 1) := by decide +kernel
theorem dX3_greatestPace_14 : decode cX3_greatestPace 14 = .ok (.istore_n 3, 1) := by decide +kernel
theorem dX3_greatestPace_15 : decode cX3_greatestPace 15 = .ok (.iload_n 3, 1) := by decide +kernel
theorem dX3_greatestPace_16 : decode cX3_greatestPace 16 = .ok (.bipush 6, 2) := by decide +kernel
theorem dX3_greatestPace_18 : decode cX3_greatestPace 18 = .ok (.if_icmp .ge 29, 3) := by decide +kernel
theorem dX3_greatestPace_21 : decode cX3_greatestPace 21 = .ok (.iload_n 1, 1) := by decide +kernel
theorem dX3_greatestPace_22 : decode cX3_greatestPace 22 = .ok (.aload_n 0, 1) := by decide +kernel
theorem dX3_greatestPace_23 : decode cX3_greatestPace 23 = .ok (.getfield 19, 3) := by decide +kernel
theorem dX3_greatestPace_26 : decode cX3_greatestPace 26 = .ok (.iload_n 2, 1) := by decide +kernel
theorem dX3_greatestPace_27 : decode cX3_greatestPace 27 = .ok (.aaload, 1) := by decide +kernel
theorem dX3_greatestPace_28 : decode cX3_greatestPace 28 = .ok (.aload_n 0, 1) := by decide +kernel
theorem dX3_greatestPace_29 : decode cX3_greatestPace 29 = .ok (.getfield 11, 3) := by decide +kernel
theorem dX3_greatestPace_32 : decode cX3_greatestPace 32 = .ok (.iload_n 3, 1) := by decide +kernel
theorem dX3_greatestPace_33 : decode cX3_greatestPace 33 = .ok (.aaload, 1) := by decide +kernel
theorem dX3_greatestPace_34 : decode cX3_greatestPace 34 = .ok (.invokevirtual 52, 3) := by decide +kernel
theorem dX3_greatestPace_37 : decode cX3_greatestPace 37 = .ok (.invokestatic 56, 3) := by decide +kernel
theorem dX3_greatestPace_40 : decode cX3_greatestPace 40 = .ok (.istore_n 1, 1) := by decide +kernel
theorem dX3_greatestPace_41 : decode cX3_greatestPace 41 = .ok (.iinc 3 1, 3) := by decide +kernel
theorem dX3_greatestPace_44 : decode cX3_greatestPace 44 = .ok (.goto (-29), 3) := by decide +kernel
theorem dX3_greatestPace_47 : decode cX3_greatestPace 47 = .ok (.iinc 2 1, 3) := by decide +kernel
theorem dX3_greatestPace_50 : decode cX3_greatestPace 50 = .ok (.goto (-45), 3) := by decide +kernel
theorem dX3_greatestPace_53 : decode cX3_greatestPace 53 = .ok (.iload_n 1, 1) := by decide +kernel
theorem dX3_greatestPace_54 : decode cX3_greatestPace 54 = .ok (.ireturn, 1) := by decide +kernel
theorem dX4_init_0 : decode cX4_init 0 = .ok (.aload_n 0, 1) := by decide +kernel
theorem dX4_init_1 : decode cX4_init 1 = .ok (.invokespecial 3, 3) := by decide +kernel
theorem dX4_init_4 : decode cX4_init 4 = .ok (.aload_n 0, 1) := by decide +kernel
theorem dX4_init_5 : decode cX4_init 5 = .ok (.bipush 6, 2) := by decide +kernel
theorem dX4_init_7 : decode cX4_init 7 = .ok (.newarray .int, 2) := by decide +kernel
theorem dX4_init_9 : decode cX4_init 9 = .ok (.putfield 9, 3) := by decide +kernel
theorem dX4_init_12 : decode cX4_init 12 = .ok (.aload_n 0, 1) := by decide +kernel
theorem dX4_init_13 : decode cX4_init 13 = .ok (.bipush 6, 2) := by decide +kernel
theorem dX4_init_15 : decode cX4_init 15 = .ok (.newarray .int, 2) := by decide +kernel
theorem dX4_init_17 : decode cX4_init 17 = .ok (.putfield 15, 3) := by decide +kernel
theorem dX4_init_20 : decode cX4_init 20 = .ok (.aload_n 0, 1) := by decide +kernel
theorem dX4_init_21 : decode cX4_init 21 = .ok (.iconst 0, 1) := by decide +kernel
theorem dX4_init_22 : decode cX4_init 22 = .ok (.putfield 18, 3) := by decide +kernel
theorem dX4_init_25 : decode cX4_init 25 = .ok (.return_, 1) := by decide +kernel
theorem dX4_add_0 : decode cX4_add 0 = .ok (.aload_n 0, 1) := by decide +kernel
theorem dX4_add_1 : decode cX4_add 1 = .ok (.getfield 9, 3) := by decide +kernel
theorem dX4_add_4 : decode cX4_add 4 = .ok (.aload_n 0, 1) := by decide +kernel
theorem dX4_add_5 : decode cX4_add 5 = .ok (.getfield 18, 3) := by decide +kernel
theorem dX4_add_8 : decode cX4_add 8 = .ok (.iload_n 1, 1) := by decide +kernel
theorem dX4_add_9 : decode cX4_add 9 = .ok (.iastore, 1) := by decide +kernel
theorem dX4_add_10 : decode cX4_add 10 = .ok (.aload_n 0, 1) := by decide +kernel
theorem dX4_add_11 : decode cX4_add 11 = .ok (.getfield 15, 3) := by decide +kernel
theorem dX4_add_14 : decode cX4_add 14 = .ok (.aload_n 0, 1) := by decide +kernel
theorem dX4_add_15 : decode cX4_add 15 = .ok (.getfield 18, 3) := by decide +kernel
theorem dX4_add_18 : decode cX4_add 18 = .ok (.iload_n 2, 1) := by decide +kernel
theorem dX4_add_19 : decode cX4_add 19 = .ok (.iastore, 1) := by decide +kernel
theorem dX4_add_20 : decode cX4_add 20 = .ok (.aload_n 0, 1) := by decide +kernel
theorem dX4_add_21 : decode cX4_add 21 = .ok (.dup, 1) := by decide +kernel
theorem dX4_add_22 : decode cX4_add 22 = .ok (.getfield 18, 3) := by decide +kernel
theorem dX4_add_25 : decode cX4_add 25 = .ok (.iconst 1, 1) := by decide +kernel
theorem dX4_add_26 : decode cX4_add 26 = .ok (.iadd, 1) := by decide +kernel
theorem dX4_add_27 : decode cX4_add 27 = .ok (.putfield 18, 3) := by decide +kernel
theorem dX4_add_30 : decode cX4_add 30 = .ok (.return_, 1) := by decide +kernel
theorem dX4_latest_0 : decode cX4_latest 0 = .ok (.aload_n 0, 1) := by decide +kernel
theorem dX4_latest_1 : decode cX4_latest 1 = .ok (.getfield 18, 3) := by decide +kernel
theorem dX4_latest_4 : decode cX4_latest 4 = .ok (.ifCond .ne 7, 3) := by decide +kernel
theorem dX4_latest_7 : decode cX4_latest 7 = .ok (.iconst (-1), 1) := by decide +kernel
theorem dX4_latest_8 : decode cX4_latest 8 = .ok (.goto 14, 3) := by decide +kernel
theorem dX4_latest_11 : decode cX4_latest 11 = .ok (.aload_n 0, 1) := by decide +kernel
theorem dX4_latest_12 : decode cX4_latest 12 = .ok (.getfield 9, 3) := by decide +kernel
theorem dX4_latest_15 : decode cX4_latest 15 = .ok (.aload_n 0, 1) := by decide +kernel
theorem dX4_latest_16 : decode cX4_latest 16 = .ok (.getfield 18, 3) := by decide +kernel
theorem dX4_latest_19 : decode cX4_latest 19 = .ok (.iconst 1, 1) := by decide +kernel
theorem dX4_latest_20 : decode cX4_latest 20 = .ok (.isub, 1) := by decide +kernel
theorem dX4_latest_21 : decode cX4_latest 21 = .ok (.iaload, 1) := by decide +kernel
theorem dX4_latest_22 : decode cX4_latest 22 = .ok (.ireturn, 1) := by decide +kernel
set_option maxRecDepth 20000 in
theorem ggX4_above_X4_lastAhead : GoodIn wsX4_above wsX4_lastAhead := goodIn_r _ [7, 8, 9, 10, 11, 12, 2, 24, 25, 26] (by decide +kernel) (by decide +kernel)
set_option maxRecDepth 20000 in
theorem gX4_above_X4_lastAhead : GoodIn wsX4_above (wsV RX4 22 RX4 yX4_lastAhead wsX4_lastAhead) := goodIn_app (goodIn_of _ (by decide +kernel)) ggX4_above_X4_lastAhead
set_option maxRecDepth 20000 in
theorem ggX4_above_X4_nextInRing : GoodIn wsX4_above wsX4_nextInRing := goodIn_r _ [16, 8, 24, 25, 26] (by decide +kernel) (by decide +kernel)
set_option maxRecDepth 20000 in
theorem gX4_above_X4_nextInRing : GoodIn wsX4_above (wsV RX4 26 RX4 yX4_nextInRing wsX4_nextInRing) := goodIn_app (goodIn_of _ (by decide +kernel)) ggX4_above_X4_nextInRing
set_option maxRecDepth 20000 in
theorem ggX4_above_X4_below : GoodIn wsX4_above wsX4_below := goodIn_r _ [20, 2, 3, 4, 5, 6, 7, 8, 9, 10, 11, 12, 13, 14, 15, 16, 21, 22, 23, 24, 25, 26] (by decide +kernel) (by decide +kernel)
set_option maxRecDepth 20000 in
theorem gX4_above_X4_below : GoodIn wsX4_above (wsV RX4 29 RX4 yX4_below wsX4_below) := goodIn_app (goodIn_of _ (by decide +kernel)) ggX4_above_X4_below
set_option maxRecDepth 20000 in
theorem ggX4_above_X9_wayUp : GoodIn wsX4_above wsX9_wayUp := goodIn_r _ [23] (by decide +kernel) (by decide +kernel)
set_option maxRecDepth 20000 in
theorem gX4_above_X9_wayUp_n32 : GoodIn wsX4_above (wsX9_wayUp) := ggX4_above_X9_wayUp
theorem dX4_above_0 : decode cX4_above 0 = .ok (.aload_n 0, 1) := by decide +kernel
theorem dX4_above_1 : decode cX4_above 1 = .ok (.iload_n 1, 1) := by decide +kernel
theorem dX4_above_2 : decode cX4_above 2 = .ok (.invokevirtual 22, 3) := by decide +kernel
theorem dX4_above_5 : decode cX4_above 5 = .ok (.istore_n 2, 1) := by decide +kernel
theorem dX4_above_6 : decode cX4_above 6 = .ok (.aload_n 0, 1) := by decide +kernel
theorem dX4_above_7 : decode cX4_above 7 = .ok (.getfield 15, 3) := by decide +kernel
theorem dX4_above_10 : decode cX4_above 10 = .ok (.aload_n 0, 1) := by decide +kernel
theorem dX4_above_11 : decode cX4_above 11 = .ok (.iload_n 2, 1) := by decide +kernel
theorem dX4_above_12 : decode cX4_above 12 = .ok (.invokevirtual 26, 3) := by decide +kernel
theorem dX4_above_15 : decode cX4_above 15 = .ok (.iaload, 1) := by decide +kernel
theorem dX4_above_16 : decode cX4_above 16 = .ok (.aload_n 0, 1) := by decide +kernel
theorem dX4_above_17 : decode cX4_above 17 = .ok (.getfield 15, 3) := by decide +kernel
theorem dX4_above_20 : decode cX4_above 20 = .ok (.iload_n 2, 1) := by decide +kernel
theorem dX4_above_21 : decode cX4_above 21 = .ok (.iaload, 1) := by decide +kernel
theorem dX4_above_22 : decode cX4_above 22 = .ok (.isub, 1) := by decide +kernel
theorem dX4_above_23 : decode cX4_above 23 = .ok (.istore_n 3, 1) := by decide +kernel
theorem dX4_above_24 : decode cX4_above 24 = .ok (.aload_n 0, 1) := by decide +kernel
theorem dX4_above_25 : decode cX4_above 25 = .ok (.getfield 15, 3) := by decide +kernel
theorem dX4_above_28 : decode cX4_above 28 = .ok (.iload_n 2, 1) := by decide +kernel
theorem dX4_above_29 : decode cX4_above 29 = .ok (.iaload, 1) := by decide +kernel
theorem dX4_above_30 : decode cX4_above 30 = .ok (.aload_n 0, 1) := by decide +kernel
theorem dX4_above_31 : decode cX4_above 31 = .ok (.iload_n 1, 1) := by decide +kernel
theorem dX4_above_32 : decode cX4_above 32 = .ok (.invokevirtual 29, 3) := by decide +kernel
theorem dX4_above_35 : decode cX4_above 35 = .ok (.imul, 1) := by decide +kernel
theorem dX4_above_36 : decode cX4_above 36 = .ok (.iload_n 3, 1) := by decide +kernel
theorem dX4_above_37 : decode cX4_above 37 = .ok (.aload_n 0, 1) := by decide +kernel
theorem dX4_above_38 : decode cX4_above 38 = .ok (.getfield 9, 3) := by decide +kernel
theorem dX4_above_41 : decode cX4_above 41 = .ok (.iload_n 2, 1) := by decide +kernel
theorem dX4_above_42 : decode cX4_above 42 = .ok (.iaload, 1) := by decide +kernel
theorem dX4_above_43 : decode cX4_above 43 = .ok (.iload_n 1, 1) := by decide +kernel
theorem dX4_above_44 : decode cX4_above 44 = .ok (.invokestatic 32, 3) := by decide +kernel
theorem dX4_above_47 : decode cX4_above 47 = .ok (.imul, 1) := by decide +kernel
theorem dX4_above_48 : decode cX4_above 48 = .ok (.iadd, 1) := by decide +kernel
theorem dX4_above_49 : decode cX4_above 49 = .ok (.ireturn, 1) := by decide +kernel
set_option maxRecDepth 20000 in
theorem ggX4_below_X4_lastAhead : GoodIn wsX4_below wsX4_lastAhead := goodIn_r _ [6, 7, 8, 9, 10, 11, 1, 19, 20, 21] (by decide +kernel) (by decide +kernel)
set_option maxRecDepth 20000 in
theorem gX4_below_X4_lastAhead : GoodIn wsX4_below (wsV RX4 22 RX4 yX4_lastAhead wsX4_lastAhead) := goodIn_app (goodIn_of _ (by decide +kernel)) ggX4_below_X4_lastAhead
set_option maxRecDepth 20000 in
theorem ggX4_below_X4_nextInRing : GoodIn wsX4_below wsX4_nextInRing := goodIn_r _ [15, 7, 19, 20, 21] (by decide +kernel) (by decide +kernel)
set_option maxRecDepth 20000 in
theorem gX4_below_X4_nextInRing : GoodIn wsX4_below (wsV RX4 26 RX4 yX4_nextInRing wsX4_nextInRing) := goodIn_app (goodIn_of _ (by decide +kernel)) ggX4_below_X4_nextInRing
set_option maxRecDepth 20000 in
theorem ggX4_below_X9_wayUp : GoodIn wsX4_below wsX9_wayUp := goodIn_r _ [18] (by decide +kernel) (by decide +kernel)
set_option maxRecDepth 20000 in
theorem gX4_below_X9_wayUp_n32 : GoodIn wsX4_below (wsX9_wayUp) := ggX4_below_X9_wayUp
theorem dX4_below_0 : decode cX4_below 0 = .ok (.aload_n 0, 1) := by decide +kernel
theorem dX4_below_1 : decode cX4_below 1 = .ok (.iload_n 1, 1) := by decide +kernel
theorem dX4_below_2 : decode cX4_below 2 = .ok (.invokevirtual 22, 3) := by decide +kernel
theorem dX4_below_5 : decode cX4_below 5 = .ok (.istore_n 2, 1) := by decide +kernel
theorem dX4_below_6 : decode cX4_below 6 = .ok (.aload_n 0, 1) := by decide +kernel
theorem dX4_below_7 : decode cX4_below 7 = .ok (.getfield 9, 3) := by decide +kernel
theorem dX4_below_10 : decode cX4_below 10 = .ok (.iload_n 2, 1) := by decide +kernel
theorem dX4_below_11 : decode cX4_below 11 = .ok (.iaload, 1) := by decide +kernel
theorem dX4_below_12 : decode cX4_below 12 = .ok (.aload_n 0, 1) := by decide +kernel
theorem dX4_below_13 : decode cX4_below 13 = .ok (.getfield 9, 3) := by decide +kernel
theorem dX4_below_16 : decode cX4_below 16 = .ok (.aload_n 0, 1) := by decide +kernel
theorem dX4_below_17 : decode cX4_below 17 = .ok (.iload_n 2, 1) := by decide +kernel
theorem dX4_below_18 : decode cX4_below 18 = .ok (.invokevirtual 26, 3) := by decide +kernel
theorem dX4_below_21 : decode cX4_below 21 = .ok (.iaload, 1) := by decide +kernel
theorem dX4_below_22 : decode cX4_below 22 = .ok (.invokestatic 32, 3) := by decide +kernel
theorem dX4_below_25 : decode cX4_below 25 = .ok (.istore_n 3, 1) := by decide +kernel
theorem dX4_below_26 : decode cX4_below 26 = .ok (.iload_n 3, 1) := by decide +kernel
theorem dX4_below_27 : decode cX4_below 27 = .ok (.ifCond .ne 9, 3) := by decide +kernel
theorem dX4_below_30 : decode cX4_below 30 = .ok (.sipush 360, 3) := by decide +kernel
theorem dX4_below_33 : decode cX4_below 33 = .ok (.goto 4, 3) := by decide +kernel
theorem dX4_below_36 : decode cX4_below 36 = .ok (.iload_n 3, 1) := by decide +kernel
theorem dX4_below_37 : decode cX4_below 37 = .ok (.ireturn, 1) := by decide +kernel
theorem dX4_lastAhead_0 : decode cX4_lastAhead 0 = .ok (.iconst 0, 1) := by decide +kernel
theorem dX4_lastAhead_1 : decode cX4_lastAhead 1 = .ok (.aload_n 0, 1) := by decide +kernel
theorem dX4_lastAhead_2 : decode cX4_lastAhead 2 = .ok (.getfield 18, 3) := by decide +kernel
theorem dX4_lastAhead_5 : decode cX4_lastAhead 5 = .ok (.iconst 1, 1) := by decide +kernel
theorem dX4_lastAhead_6 : decode cX4_lastAhead 6 = .ok (.isub, 1) := by decide +kernel
theorem dX4_lastAhead_7 : decode cX4_lastAhead 7 = .ok (.invokestatic 36, 3) := by decide +kernel
theorem dX4_lastAhead_10 : decode cX4_lastAhead 10 = .ok (.istore_n 2, 1) := by decide +kernel
theorem dX4_lastAhead_11 : decode cX4_lastAhead 11 = .ok (.iconst 0, 1) := by decide +kernel
theorem dX4_lastAhead_12 : decode cX4_lastAhead 12 = .ok (.istore_n 3, 1) := by decide +kernel
theorem dX4_lastAhead_13 : decode cX4_lastAhead 13 = .ok (.iload_n 3, 1) := by decide +kernel
theorem dX4_lastAhead_14 : decode cX4_lastAhead 14 = .ok (.aload_n 0, 1) := by decide +kernel
theorem dX4_lastAhead_15 : decode cX4_lastAhead 15 = .ok (.getfield 18, 3) := by decide +kernel
theorem dX4_lastAhead_18 : decode cX4_lastAhead 18 = .ok (.if_icmp .ge 21, 3) := by decide +kernel
theorem dX4_lastAhead_21 : decode cX4_lastAhead 21 = .ok (.aload_n 0, 1) := by decide +kernel
theorem dX4_lastAhead_22 : decode cX4_lastAhead 22 = .ok (.getfield 9, 3) := by decide +kernel
theorem dX4_lastAhead_25 : decode cX4_lastAhead 25 = .ok (.iload_n 3, 1) := by decide +kernel
theorem dX4_lastAhead_26 : decode cX4_lastAhead 26 = .ok (.iaload, 1) := by decide +kernel
theorem dX4_lastAhead_27 : decode cX4_lastAhead 27 = .ok (.iload_n 1, 1) := by decide +kernel
theorem dX4_lastAhead_28 : decode cX4_lastAhead 28 = .ok (.if_icmp .gt 5, 3) := by decide +kernel
theorem dX4_lastAhead_31 : decode cX4_lastAhead 31 = .ok (.iload_n 3, 1) := by decide +kernel
theorem dX4_lastAhead_32 : decode cX4_lastAhead 32 = .ok (.istore_n 2, 1) := by decide +kernel
theorem dX4_lastAhead_33 : decode cX4_lastAhead 33 = .ok (.iinc 3 1, 3) := by decide +kernel
theorem dX4_lastAhead_36 : decode cX4_lastAhead 36 = .ok (.goto (-23), 3) := by decide +kernel
theorem dX4_lastAhead_39 : decode cX4_lastAhead 39 = .ok (.iload_n 2, 1) := by decide +kernel
theorem dX4_lastAhead_40 : decode cX4_lastAhead 40 = .ok (.ireturn, 1) := by decide +kernel
theorem dX4_nextInRing_0 : decode cX4_nextInRing 0 = .ok (.iload_n 1, 1) := by decide +kernel
theorem dX4_nextInRing_1 : decode cX4_nextInRing 1 = .ok (.iconst 1, 1) := by decide +kernel
theorem dX4_nextInRing_2 : decode cX4_nextInRing 2 = .ok (.iadd, 1) := by decide +kernel
theorem dX4_nextInRing_3 : decode cX4_nextInRing 3 = .ok (.aload_n 0, 1) := by decide +kernel
theorem dX4_nextInRing_4 : decode cX4_nextInRing 4 = .ok (.getfield 18, 3) := by decide +kernel
theorem dX4_nextInRing_7 : decode cX4_nextInRing 7 = .ok (.if_icmp .ge 9, 3) := by decide +kernel
theorem dX4_nextInRing_10 : decode cX4_nextInRing 10 = .ok (.iload_n 1, 1) := by decide +kernel
theorem dX4_nextInRing_11 : decode cX4_nextInRing 11 = .ok (.iconst 1, 1) := by decide +kernel
theorem dX4_nextInRing_12 : decode cX4_nextInRing 12 = .ok (.iadd, 1) := by decide +kernel
theorem dX4_nextInRing_13 : decode cX4_nextInRing 13 = .ok (.goto 4, 3) := by decide +kernel
theorem dX4_nextInRing_16 : decode cX4_nextInRing 16 = .ok (.iconst 0, 1) := by decide +kernel
theorem dX4_nextInRing_17 : decode cX4_nextInRing 17 = .ok (.ireturn, 1) := by decide +kernel
theorem dX5_init_0 : decode cX5_init 0 = .ok (.aload_n 0, 1) := by decide +kernel
theorem dX5_init_1 : decode cX5_init 1 = .ok (.invokespecial 3, 3) := by decide +kernel
theorem dX5_init_4 : decode cX5_init 4 = .ok (.aload_n 0, 1) := by decide +kernel
theorem dX5_init_5 : decode cX5_init 5 = .ok (.bipush 30, 2) := by decide +kernel
theorem dX5_init_7 : decode cX5_init 7 = .ok (.newarray .int, 2) := by decide +kernel
theorem dX5_init_9 : decode cX5_init 9 = .ok (.putfield 9, 3) := by decide +kernel
theorem dX5_init_12 : decode cX5_init 12 = .ok (.aload_n 0, 1) := by decide +kernel
theorem dX5_init_13 : decode cX5_init 13 = .ok (.bipush 30, 2) := by decide +kernel
theorem dX5_init_15 : decode cX5_init 15 = .ok (.newarray .int, 2) := by decide +kernel
theorem dX5_init_17 : decode cX5_init 17 = .ok (.putfield 15, 3) := by decide +kernel
theorem dX5_init_20 : decode cX5_init 20 = .ok (.aload_n 0, 1) := by decide +kernel
theorem dX5_init_21 : decode cX5_init 21 = .ok (.bipush 30, 2) := by decide +kernel
theorem dX5_init_23 : decode cX5_init 23 = .ok (.newarray .boolean, 2) := by decide +kernel
theorem dX5_init_25 : decode cX5_init 25 = .ok (.putfield 18, 3) := by decide +kernel
theorem dX5_init_28 : decode cX5_init 28 = .ok (.aload_n 0, 1) := by decide +kernel
theorem dX5_init_29 : decode cX5_init 29 = .ok (.bipush 30, 2) := by decide +kernel
theorem dX5_init_31 : decode cX5_init 31 = .ok (.newarray .int, 2) := by decide +kernel
theorem dX5_init_33 : decode cX5_init 33 = .ok (.putfield 22, 3) := by decide +kernel
theorem dX5_init_36 : decode cX5_init 36 = .ok (.aload_n 0, 1) := by decide +kernel
theorem dX5_init_37 : decode cX5_init 37 = .ok (.bipush 30, 2) := by decide +kernel
theorem dX5_init_39 : decode cX5_init 39 = .ok (.newarray .int, 2) := by decide +kernel
theorem dX5_init_41 : decode cX5_init 41 = .ok (.putfield 25, 3) := by decide +kernel
theorem dX5_init_44 : decode cX5_init 44 = .ok (.aload_n 0, 1) := by decide +kernel
theorem dX5_init_45 : decode cX5_init 45 = .ok (.bipush 6, 2) := by decide +kernel
theorem dX5_init_47 : decode cX5_init 47 = .ok (.newarray .int, 2) := by decide +kernel
theorem dX5_init_49 : decode cX5_init 49 = .ok (.putfield 28, 3) := by decide +kernel
theorem dX5_init_52 : decode cX5_init 52 = .ok (.iconst 0, 1) := by decide +kernel
theorem dX5_init_53 : decode cX5_init 53 = .ok (.istore_n 1, 1) := by decide +kernel
theorem dX5_init_54 : decode cX5_init 54 = .ok (.iload_n 1, 1) := by decide +kernel
theorem dX5_init_55 : decode cX5_init 55 = .ok (.bipush 6, 2) := by decide +kernel
theorem dX5_init_57 : decode cX5_init 57 = .ok (.if_icmp .ge 16, 3) := by decide +kernel
theorem dX5_init_60 : decode cX5_init 60 = .ok (.aload_n 0, 1) := by decide +kernel
theorem dX5_init_61 : decode cX5_init 61 = .ok (.getfield 28, 3) := by decide +kernel
theorem dX5_init_64 : decode cX5_init 64 = .ok (.iload_n 1, 1) := by decide +kernel
theorem dX5_init_65 : decode cX5_init 65 = .ok (.iload_n 1, 1) := by decide +kernel
theorem dX5_init_66 : decode cX5_init 66 = .ok (.iastore, 1) := by decide +kernel
theorem dX5_init_67 : decode cX5_init 67 = .ok (.iinc 1 1, 3) := by decide +kernel
theorem dX5_init_70 : decode cX5_init 70 = .ok (.goto (-16), 3) := by decide +kernel
theorem dX5_init_73 : decode cX5_init 73 = .ok (.return_, 1) := by decide +kernel
theorem dX5_sectionOf_0 : decode cX5_sectionOf 0 = .ok (.iconst 0, 1) := by decide +kernel
theorem dX5_sectionOf_1 : decode cX5_sectionOf 1 = .ok (.istore_n 2, 1) := by decide +kernel
theorem dX5_sectionOf_2 : decode cX5_sectionOf 2 = .ok (.iload_n 2, 1) := by decide +kernel
theorem dX5_sectionOf_3 : decode cX5_sectionOf 3 = .ok (.bipush 6, 2) := by decide +kernel
theorem dX5_sectionOf_5 : decode cX5_sectionOf 5 = .ok (.if_icmp .ge 21, 3) := by decide +kernel
theorem dX5_sectionOf_8 : decode cX5_sectionOf 8 = .ok (.aload_n 0, 1) := by decide +kernel
theorem dX5_sectionOf_9 : decode cX5_sectionOf 9 = .ok (.getfield 28, 3) := by decide +kernel
theorem dX5_sectionOf_12 : decode cX5_sectionOf 12 = .ok (.iload_n 2, 1) := by decide +kernel
theorem dX5_sectionOf_13 : decode cX5_sectionOf 13 = .ok (.iaload, 1) := by decide +kernel
theorem dX5_sectionOf_14 : decode cX5_sectionOf 14 = .ok (.iload_n 1, 1) := by decide +kernel
theorem dX5_sectionOf_15 : decode cX5_sectionOf 15 = .ok (.if_icmp .ne 5, 3) := by decide +kernel
theorem dX5_sectionOf_18 : decode cX5_sectionOf 18 = .ok (.iload_n 2, 1) := by decide +kernel
theorem dX5_sectionOf_19 : decode cX5_sectionOf 19 = .ok (.ireturn, 1) := by decide +kernel
theorem dX5_sectionOf_20 : decode cX5_sectionOf 20 = .ok (.iinc 2 1, 3) := by decide +kernel
theorem dX5_sectionOf_23 : decode cX5_sectionOf 23 = .ok (.goto (-21), 3) := by decide +kernel
theorem dX5_sectionOf_26 : decode cX5_sectionOf 26 = .ok (.iconst (-1), 1) := by decide +kernel
theorem dX5_sectionOf_27 : decode cX5_sectionOf 27 = .ok (.ireturn, 1) := by decide +kernel
theorem dX5_makeNew_0 : decode cX5_makeNew 0 = .ok (.aload_n 0, 1) := by decide +kernel
theorem dX5_makeNew_1 : decode cX5_makeNew 1 = .ok (.getfield 9, 3) := by decide +kernel
theorem dX5_makeNew_4 : decode cX5_makeNew 4 = .ok (.iload_n 1, 1) := by decide +kernel
theorem dX5_makeNew_5 : decode cX5_makeNew 5 = .ok (.iconst 0, 1) := by decide +kernel
theorem dX5_makeNew_6 : decode cX5_makeNew 6 = .ok (.iastore, 1) := by decide +kernel
theorem dX5_makeNew_7 : decode cX5_makeNew 7 = .ok (.aload_n 0, 1) := by decide +kernel
theorem dX5_makeNew_8 : decode cX5_makeNew 8 = .ok (.getfield 15, 3) := by decide +kernel
theorem dX5_makeNew_11 : decode cX5_makeNew 11 = .ok (.iload_n 1, 1) := by decide +kernel
theorem dX5_makeNew_12 : decode cX5_makeNew 12 = .ok (.iconst 0, 1) := by decide +kernel
theorem dX5_makeNew_13 : decode cX5_makeNew 13 = .ok (.iastore, 1) := by decide +kernel
theorem dX5_makeNew_14 : decode cX5_makeNew 14 = .ok (.aload_n 0, 1) := by decide +kernel
theorem dX5_makeNew_15 : decode cX5_makeNew 15 = .ok (.getfield 18, 3) := by decide +kernel
theorem dX5_makeNew_18 : decode cX5_makeNew 18 = .ok (.iload_n 1, 1) := by decide +kernel
theorem dX5_makeNew_19 : decode cX5_makeNew 19 = .ok (.iconst 0, 1) := by decide +kernel
theorem dX5_makeNew_20 : decode cX5_makeNew 20 = .ok (.bastore, 1) := by decide +kernel
theorem dX5_makeNew_21 : decode cX5_makeNew 21 = .ok (.return_, 1) := by decide +kernel
theorem dX5_enter_0 : decode cX5_enter 0 = .ok (.iload_n 2, 1) := by decide +kernel
theorem dX5_enter_1 : decode cX5_enter 1 = .ok (.ifCond .eq 16, 3) := by decide +kernel
theorem dX5_enter_4 : decode cX5_enter 4 = .ok (.aload_n 0, 1) := by decide +kernel
theorem dX5_enter_5 : decode cX5_enter 5 = .ok (.getfield 22, 3) := by decide +kernel
theorem dX5_enter_8 : decode cX5_enter 8 = .ok (.iload_n 1, 1) := by decide +kernel
theorem dX5_enter_9 : decode cX5_enter 9 = .ok (.dup2, 1) := by decide +kernel
theorem dX5_enter_10 : decode cX5_enter 10 = .ok (.iaload, 1) := by decide +kernel
theorem dX5_enter_11 : decode cX5_enter 11 = .ok (.iconst 1, 1) := by decide +kernel
theorem dX5_enter_12 : decode cX5_enter 12 = .ok (.iadd, 1) := by decide +kernel
theorem dX5_enter_13 : decode cX5_enter 13 = .ok (.iastore, 1) := by decide +kernel
theorem dX5_enter_14 : decode cX5_enter 14 = .ok (.goto 13, 3) := by decide +kernel
theorem dX5_enter_17 : decode cX5_enter 17 = .ok (.aload_n 0, 1) := by decide +kernel
theorem dX5_enter_18 : decode cX5_enter 18 = .ok (.getfield 25, 3) := by decide +kernel
theorem dX5_enter_21 : decode cX5_enter 21 = .ok (.iload_n 1, 1) := by decide +kernel
theorem dX5_enter_22 : decode cX5_enter 22 = .ok (.dup2, 1) := by decide +kernel
theorem dX5_enter_23 : decode cX5_enter 23 = .ok (.iaload, 1) := by decide +kernel
theorem dX5_enter_24 : decode cX5_enter 24 = .ok (.iconst 1, 1) := by decide +kernel
theorem dX5_enter_25 : decode cX5_enter 25 = .ok (.iadd, 1) := by decide +kernel
theorem dX5_enter_26 : decode cX5_enter 26 = .ok (.iastore, 1) := by decide +kernel
theorem dX5_enter_27 : decode cX5_enter 27 = .ok (.return_, 1) := by decide +kernel
theorem dX6_init_0 : decode cX6_init 0 = .ok (.aload_n 0, 1) := by decide +kernel
theorem dX6_init_1 : decode cX6_init 1 = .ok (.invokespecial 3, 3) := by decide +kernel
theorem dX6_init_4 : decode cX6_init 4 = .ok (.aload_n 0, 1) := by decide +kernel
theorem dX6_init_5 : decode cX6_init 5 = .ok (.bipush 6, 2) := by decide +kernel
theorem dX6_init_7 : decode cX6_init 7 = .ok (.newarray .int, 2) := by decide +kernel
theorem dX6_init_9 : decode cX6_init 9 = .ok (.putfield 9, 3) := by decide +kernel
theorem dX6_init_12 : decode cX6_init 12 = .ok (.aload_n 0, 1) := by decide +kernel
theorem dX6_init_13 : decode cX6_init 13 = .ok (.iconst 0, 1) := by decide +kernel
theorem dX6_init_14 : decode cX6_init 14 = .ok (.putfield 15, 3) := by decide +kernel
theorem dX6_init_17 : decode cX6_init 17 = .ok (.aload_n 0, 1) := by decide +kernel
theorem dX6_init_18 : decode cX6_init 18 = .ok (.bipush 6, 2) := by decide +kernel
theorem dX6_init_20 : decode cX6_init 20 = .ok (.putfield 19, 3) := by decide +kernel
theorem dX6_init_23 : decode cX6_init 23 = .ok (.iconst 0, 1) := by decide +kernel
theorem dX6_init_24 : decode cX6_init 24 = .ok (.istore_n 1, 1) := by decide +kernel
theorem dX6_init_25 : decode cX6_init 25 = .ok (.iload_n 1, 1) := by decide +kernel
theorem dX6_init_26 : decode cX6_init 26 = .ok (.bipush 6, 2) := by decide +kernel
theorem dX6_init_28 : decode cX6_init 28 = .ok (.if_icmp .ge 16, 3) := by decide +kernel
theorem dX6_init_31 : decode cX6_init 31 = .ok (.aload_n 0, 1) := by decide +kernel
theorem dX6_init_32 : decode cX6_init 32 = .ok (.getfield 9, 3) := by decide +kernel
theorem dX6_init_35 : decode cX6_init 35 = .ok (.iload_n 1, 1) := by decide +kernel
theorem dX6_init_36 : decode cX6_init 36 = .ok (.iload_n 1, 1) := by decide +kernel
theorem dX6_init_37 : decode cX6_init 37 = .ok (.iastore, 1) := by decide +kernel
theorem dX6_init_38 : decode cX6_init 38 = .ok (.iinc 1 1, 3) := by decide +kernel
theorem dX6_init_41 : decode cX6_init 41 = .ok (.goto (-16), 3) := by decide +kernel
theorem dX6_init_44 : decode cX6_init 44 = .ok (.return_, 1) := by decide +kernel
theorem dX6_find_0 : decode cX6_find 0 = .ok (.iconst 0, 1) := by decide +kernel
theorem dX6_find_1 : decode cX6_find 1 = .ok (.istore_n 2, 1) := by decide +kernel
theorem dX6_find_2 : decode cX6_find 2 = .ok (.iload_n 2, 1) := by decide +kernel
theorem dX6_find_3 : decode cX6_find 3 = .ok (.aload_n 0, 1) := by decide +kernel
theorem dX6_find_4 : decode cX6_find 4 = .ok (.getfield 19, 3) := by decide +kernel
theorem dX6_find_7 : decode cX6_find 7 = .ok (.if_icmp .ge 21, 3) := by decide +kernel
theorem dX6_find_10 : decode cX6_find 10 = .ok (.aload_n 0, 1) := by decide +kernel
theorem dX6_find_11 : decode cX6_find 11 = .ok (.getfield 9, 3) := by decide +kernel
theorem dX6_find_14 : decode cX6_find 14 = .ok (.iload_n 2, 1) := by decide +kernel
theorem dX6_find_15 : decode cX6_find 15 = .ok (.iaload, 1) := by decide +kernel
theorem dX6_find_16 : decode cX6_find 16 = .ok (.iload_n 1, 1) := by decide +kernel
theorem dX6_find_17 : decode cX6_find 17 = .ok (.if_icmp .ne 5, 3) := by decide +kernel
theorem dX6_find_20 : decode cX6_find 20 = .ok (.iload_n 2, 1) := by decide +kernel
theorem dX6_find_21 : decode cX6_find 21 = .ok (.ireturn, 1) := by decide +kernel
theorem dX6_find_22 : decode cX6_find 22 = .ok (.iinc 2 1, 3) := by decide +kernel
theorem dX6_find_25 : decode cX6_find 25 = .ok (.goto (-23), 3) := by decide +kernel
theorem dX6_find_28 : decode cX6_find 28 = .ok (.iconst (-1), 1) := by decide +kernel
theorem dX6_find_29 : decode cX6_find 29 = .ok (.ireturn, 1) := by decide +kernel
theorem dX6_leave_0 : decode cX6_leave 0 = .ok (.iload_n 1, 1) := by decide +kernel
theorem dX6_leave_1 : decode cX6_leave 1 = .ok (.istore_n 2, 1) := by decide +kernel
theorem dX6_leave_2 : decode cX6_leave 2 = .ok (.iload_n 2, 1) := by decide +kernel
theorem dX6_leave_3 : decode cX6_leave 3 = .ok (.iconst 1, 1) := by decide +kernel
theorem dX6_leave_4 : decode cX6_leave 4 = .ok (.iadd, 1) := by decide +kernel
theorem dX6_leave_5 : decode cX6_leave 5 = .ok (.aload_n 0, 1) := by decide +kernel
theorem dX6_leave_6 : decode cX6_leave 6 = .ok (.getfield 19, 3) := by decide +kernel
theorem dX6_leave_9 : decode cX6_leave 9 = .ok (.if_icmp .ge 23, 3) := by decide +kernel
theorem dX6_leave_12 : decode cX6_leave 12 = .ok (.aload_n 0, 1) := by decide +kernel
theorem dX6_leave_13 : decode cX6_leave 13 = .ok (.getfield 9, 3) := by decide +kernel
theorem dX6_leave_16 : decode cX6_leave 16 = .ok (.iload_n 2, 1) := by decide +kernel
theorem dX6_leave_17 : decode cX6_leave 17 = .ok (.aload_n 0, 1) := by decide +kernel
theorem dX6_leave_18 : decode cX6_leave 18 = .ok (.getfield 9, 3) := by decide +kernel
theorem dX6_leave_21 : decode cX6_leave 21 = .ok (.iload_n 2, 1) := by decide +kernel
theorem dX6_leave_22 : decode cX6_leave 22 = .ok (.iconst 1, 1) := by decide +kernel
theorem dX6_leave_23 : decode cX6_leave 23 = .ok (.iadd, 1) := by decide +kernel
theorem dX6_leave_24 : decode cX6_leave 24 = .ok (.iaload, 1) := by decide +kernel
theorem dX6_leave_25 : decode cX6_leave 25 = .ok (.iastore, 1) := by decide +kernel
theorem dX6_leave_26 : decode cX6_leave 26 = .ok (.iinc 2 1, 3) := by decide +kernel
theorem dX6_leave_29 : decode cX6_leave 29 = .ok (.goto (-27), 3) := by decide +kernel
theorem dX6_leave_32 : decode cX6_leave 32 = .ok (.aload_n 0, 1) := by decide +kernel
theorem dX6_leave_33 : decode cX6_leave 33 = .ok (.dup, 1) := by decide +kernel
theorem dX6_leave_34 : decode cX6_leave 34 = .ok (.getfield 19, 3) := by decide +kernel
theorem dX6_leave_37 : decode cX6_leave 37 = .ok (.iconst 1, 1) := by decide +kernel
theorem dX6_leave_38 : decode cX6_leave 38 = .ok (.isub, 1) := by decide +kernel
theorem dX6_leave_39 : decode cX6_leave 39 = .ok (.putfield 19, 3) := by decide +kernel
theorem dX6_leave_42 : decode cX6_leave 42 = .ok (.iload_n 1, 1) := by decide +kernel
theorem dX6_leave_43 : decode cX6_leave 43 = .ok (.aload_n 0, 1) := by decide +kernel
theorem dX6_leave_44 : decode cX6_leave 44 = .ok (.getfield 15, 3) := by decide +kernel
theorem dX6_leave_47 : decode cX6_leave 47 = .ok (.if_icmp .ge 13, 3) := by decide +kernel
theorem dX6_leave_50 : decode cX6_leave 50 = .ok (.aload_n 0, 1) := by decide +kernel
theorem dX6_leave_51 : decode cX6_leave 51 = .ok (.dup, 1) := by decide +kernel
theorem dX6_leave_52 : decode cX6_leave 52 = .ok (.getfield 15, 3) := by decide +kernel
theorem dX6_leave_55 : decode cX6_leave 55 = .ok (.iconst 1, 1) := by decide +kernel
theorem dX6_leave_56 : decode cX6_leave 56 = .ok (.isub, 1) := by decide +kernel
theorem dX6_leave_57 : decode cX6_leave 57 = .ok (.putfield 15, 3) := by decide +kernel
theorem dX6_leave_60 : decode cX6_leave 60 = .ok (.aload_n 0, 1) := by decide +kernel
theorem dX6_leave_61 : decode cX6_leave 61 = .ok (.getfield 15, 3) := by decide +kernel
theorem dX6_leave_64 : decode cX6_leave 64 = .ok (.aload_n 0, 1) := by decide +kernel
theorem dX6_leave_65 : decode cX6_leave 65 = .ok (.getfield 19, 3) := by decide +kernel
theorem dX6_leave_68 : decode cX6_leave 68 = .ok (.if_icmp .lt 8, 3) := by decide +kernel
theorem dX6_leave_71 : decode cX6_leave 71 = .ok (.aload_n 0, 1) := by decide +kernel
theorem dX6_leave_72 : decode cX6_leave 72 = .ok (.iconst 0, 1) := by decide +kernel
theorem dX6_leave_73 : decode cX6_leave 73 = .ok (.putfield 15, 3) := by decide +kernel
theorem dX6_leave_76 : decode cX6_leave 76 = .ok (.return_, 1) := by decide +kernel
theorem dX6_join_0 : decode cX6_join 0 = .ok (.aload_n 0, 1) := by decide +kernel
theorem dX6_join_1 : decode cX6_join 1 = .ok (.getfield 9, 3) := by decide +kernel
theorem dX6_join_4 : decode cX6_join 4 = .ok (.aload_n 0, 1) := by decide +kernel
theorem dX6_join_5 : decode cX6_join 5 = .ok (.getfield 19, 3) := by decide +kernel
theorem dX6_join_8 : decode cX6_join 8 = .ok (.iload_n 1, 1) := by decide +kernel
theorem dX6_join_9 : decode cX6_join 9 = .ok (.iastore, 1) := by decide +kernel
theorem dX6_join_10 : decode cX6_join 10 = .ok (.aload_n 0, 1) := by decide +kernel
theorem dX6_join_11 : decode cX6_join 11 = .ok (.dup, 1) := by decide +kernel
theorem dX6_join_12 : decode cX6_join 12 = .ok (.getfield 19, 3) := by decide +kernel
theorem dX6_join_15 : decode cX6_join 15 = .ok (.iconst 1, 1) := by decide +kernel
theorem dX6_join_16 : decode cX6_join 16 = .ok (.iadd, 1) := by decide +kernel
theorem dX6_join_17 : decode cX6_join 17 = .ok (.putfield 19, 3) := by decide +kernel
theorem dX6_join_20 : decode cX6_join 20 = .ok (.return_, 1) := by decide +kernel
theorem dX6_next_0 : decode cX6_next 0 = .ok (.aload_n 0, 1) := by decide +kernel
theorem dX6_next_1 : decode cX6_next 1 = .ok (.getfield 19, 3) := by decide +kernel
theorem dX6_next_4 : decode cX6_next 4 = .ok (.ifCond .ne 7, 3) := by decide +kernel
theorem dX6_next_7 : decode cX6_next 7 = .ok (.iconst (-1), 1) := by decide +kernel
theorem dX6_next_8 : decode cX6_next 8 = .ok (.goto 12, 3) := by decide +kernel
theorem dX6_next_11 : decode cX6_next 11 = .ok (.aload_n 0, 1) := by decide +kernel
theorem dX6_next_12 : decode cX6_next 12 = .ok (.getfield 9, 3) := by decide +kernel
theorem dX6_next_15 : decode cX6_next 15 = .ok (.aload_n 0, 1) := by decide +kernel
theorem dX6_next_16 : decode cX6_next 16 = .ok (.getfield 15, 3) := by decide +kernel
theorem dX6_next_19 : decode cX6_next 19 = .ok (.iaload, 1) := by decide +kernel
theorem dX6_next_20 : decode cX6_next 20 = .ok (.ireturn, 1) := by decide +kernel
theorem dX6_pass_0 : decode cX6_pass 0 = .ok (.aload_n 0, 1) := by decide +kernel
theorem dX6_pass_1 : decode cX6_pass 1 = .ok (.aload_n 0, 1) := by decide +kernel
theorem dX6_pass_2 : decode cX6_pass 2 = .ok (.getfield 15, 3) := by decide +kernel
theorem dX6_pass_5 : decode cX6_pass 5 = .ok (.iconst 1, 1) := by decide +kernel
theorem dX6_pass_6 : decode cX6_pass 6 = .ok (.iadd, 1) := by decide +kernel
theorem dX6_pass_7 : decode cX6_pass 7 = .ok (.aload_n 0, 1) := by decide +kernel
theorem dX6_pass_8 : decode cX6_pass 8 = .ok (.getfield 19, 3) := by decide +kernel
theorem dX6_pass_11 : decode cX6_pass 11 = .ok (.if_icmp .ge 12, 3) := by decide +kernel
theorem dX6_pass_14 : decode cX6_pass 14 = .ok (.aload_n 0, 1) := by decide +kernel
theorem dX6_pass_15 : decode cX6_pass 15 = .ok (.getfield 15, 3) := by decide +kernel
theorem dX6_pass_18 : decode cX6_pass 18 = .ok (.iconst 1, 1) := by decide +kernel
theorem dX6_pass_19 : decode cX6_pass 19 = .ok (.iadd, 1) := by decide +kernel
theorem dX6_pass_20 : decode cX6_pass 20 = .ok (.goto 4, 3) := by decide +kernel
theorem dX6_pass_23 : decode cX6_pass 23 = .ok (.iconst 0, 1) := by decide +kernel
theorem dX6_pass_24 : decode cX6_pass 24 = .ok (.putfield 15, 3) := by decide +kernel
theorem dX6_pass_27 : decode cX6_pass 27 = .ok (.return_, 1) := by decide +kernel
set_option maxRecDepth 20000 in
theorem ggX7_init_X4_init : GoodIn wsX7_init wsX4_init := goodIn_r _ [10, 11, 2, 3, 12, 13, 14, 15, 22, 23, 24] (by decide +kernel) (by decide +kernel)
set_option maxRecDepth 20000 in
theorem gX7_init_X4_init_n17 : GoodIn wsX7_init (wsX4_init) := ggX7_init_X4_init
set_option maxRecDepth 20000 in
theorem ggX7_init_X4_add : GoodIn wsX7_init wsX4_add := goodIn_r _ [19, 13, 15, 14, 22, 23, 24] (by decide +kernel) (by decide +kernel)
set_option maxRecDepth 20000 in
theorem gX7_init_X4_add : GoodIn wsX7_init (wsV RX7 22 RX4 yX4_add wsX4_add) := goodIn_app (goodIn_of _ (by decide +kernel)) ggX7_init_X4_add
theorem dX7_init_0 : decode cX7_init 0 = .ok (.aload_n 0, 1) := by decide +kernel
theorem dX7_init_1 : decode cX7_init 1 = .ok (.invokespecial 3, 3) := by decide +kernel
theorem dX7_init_4 : decode cX7_init 4 = .ok (.aload_n 0, 1) := by decide +kernel
theorem dX7_init_5 : decode cX7_init 5 = .ok (.iconst 3, 1) := by decide +kernel
theorem dX7_init_6 : decode cX7_init 6 = .ok (.anewarray 9, 3) := by decide +kernel
theorem dX7_init_9 : decode cX7_init 9 = .ok (.putfield 11, 3) := by decide +kernel
theorem dX7_init_12 : decode cX7_init 12 = .ok (.aload_n 0, 1) := by decide +kernel
theorem dX7_init_13 : decode cX7_init 13 = .ok (.new 9, 3) := by decide +kernel
theorem dX7_init_16 : decode cX7_init 16 = .ok (.dup, 1) := by decide +kernel
theorem dX7_init_17 : decode cX7_init 17 = .ok (.invokespecial 17, 3) := by decide +kernel
theorem dX7_init_20 : decode cX7_init 20 = .ok (.putfield 18, 3) := by decide +kernel
theorem dX7_init_23 : decode cX7_init 23 = .ok (.iconst 0, 1) := by decide +kernel
theorem dX7_init_24 : decode cX7_init 24 = .ok (.istore_n 1, 1) := by decide +kernel
theorem dX7_init_25 : decode cX7_init 25 = .ok (.iload_n 1, 1) := by decide +kernel
theorem dX7_init_26 : decode cX7_init 26 = .ok (.iconst 3, 1) := by decide +kernel
theorem dX7_init_27 : decode cX7_init 27 = .ok (.if_icmp .ge 37, 3) := by decide +kernel
theorem dX7_init_30 : decode cX7_init 30 = .ok (.aload_n 0, 1) := by decide +kernel
theorem dX7_init_31 : decode cX7_init 31 = .ok (.getfield 11, 3) := by decide +kernel
theorem dX7_init_34 : decode cX7_init 34 = .ok (.iload_n 1, 1) := by decide +kernel
theorem dX7_init_35 : decode cX7_init 35 = .ok (.new 9, 3) := by decide +kernel
theorem dX7_init_38 : decode cX7_init 38 = .ok (.dup, 1) := by decide +kernel
theorem dX7_init_39 : decode cX7_init 39 = .ok (.invokespecial 17, 3) := by decide +kernel
theorem dX7_init_42 : decode cX7_init 42 = .ok (.aastore, 1) := by decide +kernel
theorem dX7_init_43 : decode cX7_init 43 = .ok (.aload_n 0, 1) := by decide +kernel
theorem dX7_init_44 : decode cX7_init 44 = .ok (.getfield 11, 3) := by decide +kernel
theorem dX7_init_47 : decode cX7_init 47 = .ok (.iload_n 1, 1) := by decide +kernel
theorem dX7_init_48 : decode cX7_init 48 = .ok (.aaload, 1) := by decide +kernel
theorem dX7_init_49 : decode cX7_init 49 = .ok (.iconst 0, 1) := by decide +kernel
theorem dX7_init_50 : decode cX7_init 50 = .ok (.sipush 300, 3) := by decide +kernel
theorem dX7_init_53 : decode cX7_init 53 = .ok (.iload_n 1, 1) := by decide +kernel
theorem dX7_init_54 : decode cX7_init 54 = .ok (.imul, 1) := by decide +kernel
theorem dX7_init_55 : decode cX7_init 55 = .ok (.invokevirtual 22, 3) := by decide +kernel
theorem dX7_init_58 : decode cX7_init 58 = .ok (.iinc 1 1, 3) := by decide +kernel
theorem dX7_init_61 : decode cX7_init 61 = .ok (.goto (-36), 3) := by decide +kernel
theorem dX7_init_64 : decode cX7_init 64 = .ok (.return_, 1) := by decide +kernel
theorem dX7_swapWithTold_0 : decode cX7_swapWithTold 0 = .ok (.aload_n 0, 1) := by decide +kernel
theorem dX7_swapWithTold_1 : decode cX7_swapWithTold 1 = .ok (.getfield 11, 3) := by decide +kernel
theorem dX7_swapWithTold_4 : decode cX7_swapWithTold 4 = .ok (.iload_n 1, 1) := by decide +kernel
theorem dX7_swapWithTold_5 : decode cX7_swapWithTold 5 = .ok (.aaload, 1) := by decide +kernel
theorem dX7_swapWithTold_6 : decode cX7_swapWithTold 6 = .ok (.astore_n 2, 1) := by decide +kernel
theorem dX7_swapWithTold_7 : decode cX7_swapWithTold 7 = .ok (.aload_n 0, 1) := by decide +kernel
theorem dX7_swapWithTold_8 : decode cX7_swapWithTold 8 = .ok (.getfield 11, 3) := by decide +kernel
theorem dX7_swapWithTold_11 : decode cX7_swapWithTold 11 = .ok (.iload_n 1, 1) := by decide +kernel
theorem dX7_swapWithTold_12 : decode cX7_swapWithTold 12 = .ok (.aload_n 0, 1) := by decide +kernel
theorem dX7_swapWithTold_13 : decode cX7_swapWithTold 13 = .ok (.getfield 18, 3) := by decide +kernel
theorem dX7_swapWithTold_16 : decode cX7_swapWithTold 16 = .ok (.aastore, 1) := by decide +kernel
theorem dX7_swapWithTold_17 : decode cX7_swapWithTold 17 = .ok (.aload_n 0, 1) := by decide +kernel
theorem dX7_swapWithTold_18 : decode cX7_swapWithTold 18 = .ok (.aload_n 2, 1) := by decide +kernel
theorem dX7_swapWithTold_19 : decode cX7_swapWithTold 19 = .ok (.putfield 18, 3) := by decide +kernel
theorem dX7_swapWithTold_22 : decode cX7_swapWithTold 22 = .ok (.return_, 1) := by decide +kernel
set_option maxRecDepth 20000 in
theorem ggX7_isClear_X7_isPairClear : GoodIn wsX7_isClear wsX7_isPairClear := goodIn_r _ [5, 6, 7, 8, 9, 4, 10, 11, 12, 13, 14, 15, 16, 17, 18, 19, 20, 21, 22, 23, 24, 25, 26, 27, 28, 29, 30, 31, 32, 33, 34, 35, 36, 37, 38, 41, 42, 43] (by decide +kernel) (by decide +kernel)
set_option maxRecDepth 20000 in
theorem gX7_isClear_X7_isPairClear : GoodIn wsX7_isClear (va_wsS RX7 26 yX7_isPairClear wsX7_isPairClear) := goodIn_app (goodIn_of _ (by decide +kernel)) ggX7_isClear_X7_isPairClear
theorem dX7_isClear_0 : decode cX7_isClear 0 = .ok (.iconst 0, 1) := by decide +kernel
theorem dX7_isClear_1 : decode cX7_isClear 1 = .ok (.istore_n 1, 1) := by decide +kernel
theorem dX7_isClear_2 : decode cX7_isClear 2 = .ok (.iload_n 1, 1) := by decide +kernel
theorem dX7_isClear_3 : decode cX7_isClear 3 = .ok (.iconst 3, 1) := by decide +kernel
theorem dX7_isClear_4 : decode cX7_isClear 4 = .ok (.if_icmp .ge 44, 3) := by decide +kernel
theorem dX7_isClear_7 : decode cX7_isClear 7 = .ok (.iload_n 1, 1) := by decide +kernel
theorem dX7_isClear_8 : decode cX7_isClear 8 = .ok (.iconst 1, 1) := by decide +kernel
theorem dX7_isClear_9 : decode cX7_isClear 9 = .ok (.iadd, 1) := by decide +kernel
theorem dX7_isClear_10 : decode cX7_isClear 10 = .ok (.istore_n 2, 1) := by decide +kernel
theorem dX7_isClear_11 : decode cX7_isClear 11 = .ok (.iload_n 2, 1) := by decide +kernel
theorem dX7_isClear_12 : decode cX7_isClear 12 = .ok (.iconst 3, 1) := by decide +kernel
theorem dX7_isClear_13 : decode cX7_isClear 13 = .ok (.if_icmp .ge 29, 3) := by decide +kernel
theorem dX7_isClear_16 : decode cX7_isClear 16 = .ok (.aload_n 0, 1) := by decide +kernel
theorem dX7_isClear_17 : decode cX7_isClear 17 = .ok (.getfield 11, 3) := by decide +kernel
theorem dX7_isClear_20 : decode cX7_isClear 20 = .ok (.iload_n 1, 1) := by decide +kernel
theorem dX7_isClear_21 : decode cX7_isClear 21 = .ok (.aaload, 1) := by decide +kernel
theorem dX7_isClear_22 : decode cX7_isClear 22 = .ok (.aload_n 0, 1) := by decide +kernel
theorem dX7_isClear_23 : decode cX7_isClear 23 = .ok (.getfield 11, 3) := by decide +kernel
theorem dX7_isClear_26 : decode cX7_isClear 26 = .ok (.iload_n 2, 1) := by decide +kernel
theorem dX7_isClear_27 : decode cX7_isClear 27 = .ok (.aaload, 1) := by decide +kernel
theorem dX7_isClear_28 : decode cX7_isClear 28 = .ok (.invokestatic 26, 3) := by decide +kernel
theorem dX7_isClear_31 : decode cX7_isClear 31 = .ok (.ifCond .ne 5, 3) := by decide +kernel
theorem dX7_isClear_34 : decode cX7_isClear 34 = .ok (.iconst 0, 1) := by decide +kernel
theorem dX7_isClear_35 : decode cX7_isClear 35 = .ok (.ireturn, 1) := by decide +kernel
theorem dX7_isClear_36 : decode cX7_isClear 36 = .ok (.iinc 2 1, 3) := by decide +kernel
theorem dX7_isClear_39 : decode cX7_isClear 39 = .ok (.goto (-28), 3) := by decide +kernel
theorem dX7_isClear_42 : decode cX7_isClear 42 = .ok (.iinc 1 1, 3) := by decide +kernel
theorem dX7_isClear_45 : decode cX7_isClear 45 = .ok (.goto (-43), 3) := by decide +kernel
theorem dX7_isClear_48 : decode cX7_isClear 48 = .ok (.iconst 1, 1) := by decide +kernel
theorem dX7_isClear_49 : decode cX7_isClear 49 = .ok (.ireturn, 1) := by decide +kernel
set_option maxRecDepth 20000 in
theorem ggX7_nearestDegree_X7_nearerDegree : GoodIn wsX7_nearestDegree wsX7_nearerDegree := goodIn_r _ [6, 7, 8, 9, 10, 11, 12, 5, 13, 14, 15, 16, 17, 18, 19, 20, 21, 22, 23, 24, 25, 26, 27, 28, 29, 30, 31, 32, 33, 34, 35, 36, 37, 38, 39, 40, 41, 42, 43, 44, 45, 46] (by decide +kernel) (by decide +kernel)
set_option maxRecDepth 20000 in
theorem gX7_nearestDegree_X7_nearerDegree : GoodIn wsX7_nearestDegree (va_wsS RX7 38 yX7_nearerDegree wsX7_nearerDegree) := goodIn_app (goodIn_of _ (by decide +kernel)) ggX7_nearestDegree_X7_nearerDegree
theorem dX7_nearestDegree_0 : decode cX7_nearestDegree 0 = .ok (.iconst 0, 1) := by decide +kernel
theorem dX7_nearestDegree_1 : decode cX7_nearestDegree 1 = .ok (.istore_n 3, 1) := by decide +kernel
theorem dX7_nearestDegree_2 : decode cX7_nearestDegree 2 = .ok (.iconst 0, 1) := by decide +kernel
theorem dX7_nearestDegree_3 : decode cX7_nearestDegree 3 = .ok (.istore 4, 2) := by decide +kernel
theorem dX7_nearestDegree_5 : decode cX7_nearestDegree 5 = .ok (.iload 4, 2) := by decide +kernel
theorem dX7_nearestDegree_7 : decode cX7_nearestDegree 7 = .ok (.aload_n 1, 1) := by decide +kernel
theorem dX7_nearestDegree_8 : decode cX7_nearestDegree 8 = .ok (.getfield 30, 3) := by decide +kernel
theorem dX7_nearestDegree_11 : decode cX7_nearestDegree 11 = .ok (.if_icmp .ge 23, 3) := by decide +kernel
theorem dX7_nearestDegree_14 : decode cX7_nearestDegree 14 = .ok (.aload_n 1, 1) := by decide +kernel
theorem dX7_nearestDegree_15 : decode cX7_nearestDegree 15 = .ok (.aload_n 2, 1) := by decide +kernel
theorem dX7_nearestDegree_16 : decode cX7_nearestDegree 16 = .ok (.iload_n 3, 1) := by decide +kernel
theorem dX7_nearestDegree_17 : decode cX7_nearestDegree 17 = .ok (.aload_n 1, 1) := by decide +kernel
theorem dX7_nearestDegree_18 : decode cX7_nearestDegree 18 = .ok (.getfield 34, 3) := by decide +kernel
theorem dX7_nearestDegree_21 : decode cX7_nearestDegree 21 = .ok (.iload 4, 2) := by decide +kernel
theorem dX7_nearestDegree_23 : decode cX7_nearestDegree 23 = .ok (.iaload, 1) := by decide +kernel
theorem dX7_nearestDegree_24 : decode cX7_nearestDegree 24 = .ok (.invokestatic 38, 3) := by decide +kernel
theorem dX7_nearestDegree_27 : decode cX7_nearestDegree 27 = .ok (.istore_n 3, 1) := by decide +kernel
theorem dX7_nearestDegree_28 : decode cX7_nearestDegree 28 = .ok (.iinc 4 1, 3) := by decide +kernel
theorem dX7_nearestDegree_31 : decode cX7_nearestDegree 31 = .ok (.goto (-26), 3) := by decide +kernel
theorem dX7_nearestDegree_34 : decode cX7_nearestDegree 34 = .ok (.iconst 0, 1) := by decide +kernel
theorem dX7_nearestDegree_35 : decode cX7_nearestDegree 35 = .ok (.istore 4, 2) := by decide +kernel
theorem dX7_nearestDegree_37 : decode cX7_nearestDegree 37 = .ok (.iload 4, 2) := by decide +kernel
theorem dX7_nearestDegree_39 : decode cX7_nearestDegree 39 = .ok (.aload_n 2, 1) := by decide +kernel
theorem dX7_nearestDegree_40 : decode cX7_nearestDegree 40 = .ok (.getfield 30, 3) := by decide +kernel
theorem dX7_nearestDegree_43 : decode cX7_nearestDegree 43 = .ok (.if_icmp .ge 23, 3) := by decide +kernel
theorem dX7_nearestDegree_46 : decode cX7_nearestDegree 46 = .ok (.aload_n 1, 1) := by decide +kernel
theorem dX7_nearestDegree_47 : decode cX7_nearestDegree 47 = .ok (.aload_n 2, 1) := by decide +kernel
theorem dX7_nearestDegree_48 : decode cX7_nearestDegree 48 = .ok (.iload_n 3, 1) := by decide +kernel
theorem dX7_nearestDegree_49 : decode cX7_nearestDegree 49 = .ok (.aload_n 2, 1) := by decide +kernel
theorem dX7_nearestDegree_50 : decode cX7_nearestDegree 50 = .ok (.getfield 34, 3) := by decide +kernel
theorem dX7_nearestDegree_53 : decode cX7_nearestDegree 53 = .ok (.iload 4, 2) := by decide +kernel
theorem dX7_nearestDegree_55 : decode cX7_nearestDegree 55 = .ok (.iaload, 1) := by decide +kernel
theorem dX7_nearestDegree_56 : decode cX7_nearestDegree 56 = .ok (.invokestatic 38, 3) := by decide +kernel
theorem dX7_nearestDegree_59 : decode cX7_nearestDegree 59 = .ok (.istore_n 3, 1) := by decide +kernel
theorem dX7_nearestDegree_60 : decode cX7_nearestDegree 60 = .ok (.iinc 4 1, 3) := by decide +kernel
theorem dX7_nearestDegree_63 : decode cX7_nearestDegree 63 = .ok (.goto (-26), 3) := by decide +kernel
theorem dX7_nearestDegree_66 : decode cX7_nearestDegree 66 = .ok (.iload_n 3, 1) := by decide +kernel
theorem dX7_nearestDegree_67 : decode cX7_nearestDegree 67 = .ok (.ireturn, 1) := by decide +kernel
set_option maxRecDepth 20000 in
theorem ggX7_isPairClear_X7_isClearAt : GoodIn wsX7_isPairClear wsX7_isClearAt := goodIn_r _ [6, 7, 8, 9, 10, 11, 12, 13, 14, 15, 16, 17, 18, 19, 20, 21, 22, 23, 24, 25, 26, 27, 28, 29, 30, 31, 32, 33, 34, 35, 36, 37] (by decide +kernel) (by decide +kernel)
set_option maxRecDepth 20000 in
theorem gX7_isPairClear_X7_isClearAt : GoodIn wsX7_isPairClear (va_wsS RX7 42 yX7_isClearAt wsX7_isClearAt) := goodIn_app (goodIn_of _ (by decide +kernel)) ggX7_isPairClear_X7_isClearAt
theorem dX7_isPairClear_0 : decode cX7_isPairClear 0 = .ok (.iconst 0, 1) := by decide +kernel
theorem dX7_isPairClear_1 : decode cX7_isPairClear 1 = .ok (.istore_n 2, 1) := by decide +kernel
theorem dX7_isPairClear_2 : decode cX7_isPairClear 2 = .ok (.iload_n 2, 1) := by decide +kernel
theorem dX7_isPairClear_3 : decode cX7_isPairClear 3 = .ok (.aload_n 0, 1) := by decide +kernel
theorem dX7_isPairClear_4 : decode cX7_isPairClear 4 = .ok (.getfield 30, 3) := by decide +kernel
theorem dX7_isPairClear_7 : decode cX7_isPairClear 7 = .ok (.if_icmp .ge 25, 3) := by decide +kernel
theorem dX7_isPairClear_10 : decode cX7_isPairClear 10 = .ok (.aload_n 0, 1) := by decide +kernel
theorem dX7_isPairClear_11 : decode cX7_isPairClear 11 = .ok (.aload_n 1, 1) := by decide +kernel
theorem dX7_isPairClear_12 : decode cX7_isPairClear 12 = .ok (.aload_n 0, 1) := by decide +kernel
theorem dX7_isPairClear_13 : decode cX7_isPairClear 13 = .ok (.getfield 34, 3) := by decide +kernel
theorem dX7_isPairClear_16 : decode cX7_isPairClear 16 = .ok (.iload_n 2, 1) := by decide +kernel
theorem dX7_isPairClear_17 : decode cX7_isPairClear 17 = .ok (.iaload, 1) := by decide +kernel
theorem dX7_isPairClear_18 : decode cX7_isPairClear 18 = .ok (.invokestatic 42, 3) := by decide +kernel
theorem dX7_isPairClear_21 : decode cX7_isPairClear 21 = .ok (.ifCond .ne 5, 3) := by decide +kernel
theorem dX7_isPairClear_24 : decode cX7_isPairClear 24 = .ok (.iconst 0, 1) := by decide +kernel
theorem dX7_isPairClear_25 : decode cX7_isPairClear 25 = .ok (.ireturn, 1) := by decide +kernel
theorem dX7_isPairClear_26 : decode cX7_isPairClear 26 = .ok (.iinc 2 1, 3) := by decide +kernel
theorem dX7_isPairClear_29 : decode cX7_isPairClear 29 = .ok (.goto (-27), 3) := by decide +kernel
theorem dX7_isPairClear_32 : decode cX7_isPairClear 32 = .ok (.iconst 0, 1) := by decide +kernel
theorem dX7_isPairClear_33 : decode cX7_isPairClear 33 = .ok (.istore_n 2, 1) := by decide +kernel
theorem dX7_isPairClear_34 : decode cX7_isPairClear 34 = .ok (.iload_n 2, 1) := by decide +kernel
theorem dX7_isPairClear_35 : decode cX7_isPairClear 35 = .ok (.aload_n 1, 1) := by decide +kernel
theorem dX7_isPairClear_36 : decode cX7_isPairClear 36 = .ok (.getfield 30, 3) := by decide +kernel
theorem dX7_isPairClear_39 : decode cX7_isPairClear 39 = .ok (.if_icmp .ge 25, 3) := by decide +kernel
theorem dX7_isPairClear_42 : decode cX7_isPairClear 42 = .ok (.aload_n 0, 1) := by decide +kernel
theorem dX7_isPairClear_43 : decode cX7_isPairClear 43 = .ok (.aload_n 1, 1) := by decide +kernel
theorem dX7_isPairClear_44 : decode cX7_isPairClear 44 = .ok (.aload_n 1, 1) := by decide +kernel
theorem dX7_isPairClear_45 : decode cX7_isPairClear 45 = .ok (.getfield 34, 3) := by decide +kernel
theorem dX7_isPairClear_48 : decode cX7_isPairClear 48 = .ok (.iload_n 2, 1) := by decide +kernel
theorem dX7_isPairClear_49 : decode cX7_isPairClear 49 = .ok (.iaload, 1) := by decide +kernel
theorem dX7_isPairClear_50 : decode cX7_isPairClear 50 = .ok (.invokestatic 42, 3) := by decide +kernel
theorem dX7_isPairClear_53 : decode cX7_isPairClear 53 = .ok (.ifCond .ne 5, 3) := by decide +kernel
theorem dX7_isPairClear_56 : decode cX7_isPairClear 56 = .ok (.iconst 0, 1) := by decide +kernel
theorem dX7_isPairClear_57 : decode cX7_isPairClear 57 = .ok (.ireturn, 1) := by decide +kernel
theorem dX7_isPairClear_58 : decode cX7_isPairClear 58 = .ok (.iinc 2 1, 3) := by decide +kernel
theorem dX7_isPairClear_61 : decode cX7_isPairClear 61 = .ok (.goto (-27), 3) := by decide +kernel
theorem dX7_isPairClear_64 : decode cX7_isPairClear 64 = .ok (.iconst 1, 1) := by decide +kernel
theorem dX7_isPairClear_65 : decode cX7_isPairClear 65 = .ok (.ireturn, 1) := by decide +kernel
set_option maxRecDepth 20000 in
theorem ggX7_isClearAt_X4_below : GoodIn wsX7_isClearAt wsX4_below := goodIn_r _ [5, 6, 7, 8, 9, 4, 10, 11, 12, 13, 14, 15, 16, 17, 18, 19, 20, 21, 22, 29, 30, 31] (by decide +kernel) (by decide +kernel)
set_option maxRecDepth 20000 in
theorem gX7_isClearAt_X4_below : GoodIn wsX7_isClearAt (wsV RX7 46 RX4 yX4_below wsX4_below) := goodIn_app (goodIn_of _ (by decide +kernel)) ggX7_isClearAt_X4_below
set_option maxRecDepth 20000 in
theorem ggX7_isClearAt_X4_above : GoodIn wsX7_isClearAt wsX4_above := goodIn_r _ [26, 27, 6, 7, 8, 9, 4, 10, 11, 12, 13, 14, 15, 16, 17, 18, 19, 28, 2, 3, 5, 20, 21, 22, 29, 30, 31] (by decide +kernel) (by decide +kernel)
set_option maxRecDepth 20000 in
theorem gX7_isClearAt_X4_above : GoodIn wsX7_isClearAt (wsV RX7 50 RX4 yX4_above wsX4_above) := goodIn_app (goodIn_of _ (by decide +kernel)) ggX7_isClearAt_X4_above
theorem dX7_isClearAt_0 : decode cX7_isClearAt 0 = .ok (.aload_n 0, 1) := by decide +kernel
theorem dX7_isClearAt_1 : decode cX7_isClearAt 1 = .ok (.iload_n 2, 1) := by decide +kernel
theorem dX7_isClearAt_2 : decode cX7_isClearAt 2 = .ok (.invokevirtual 46, 3) := by decide +kernel
theorem dX7_isClearAt_5 : decode cX7_isClearAt 5 = .ok (.istore_n 3, 1) := by decide +kernel
theorem dX7_isClearAt_6 : decode cX7_isClearAt 6 = .ok (.aload_n 0, 1) := by decide +kernel
theorem dX7_isClearAt_7 : decode cX7_isClearAt 7 = .ok (.iload_n 2, 1) := by decide +kernel
theorem dX7_isClearAt_8 : decode cX7_isClearAt 8 = .ok (.invokevirtual 50, 3) := by decide +kernel
theorem dX7_isClearAt_11 : decode cX7_isClearAt 11 = .ok (.bipush 50, 2) := by decide +kernel
theorem dX7_isClearAt_13 : decode cX7_isClearAt 13 = .ok (.iload_n 3, 1) := by decide +kernel
theorem dX7_isClearAt_14 : decode cX7_isClearAt 14 = .ok (.imul, 1) := by decide +kernel
theorem dX7_isClearAt_15 : decode cX7_isClearAt 15 = .ok (.iadd, 1) := by decide +kernel
theorem dX7_isClearAt_16 : decode cX7_isClearAt 16 = .ok (.i2l, 1) := by decide +kernel
theorem dX7_isClearAt_17 : decode cX7_isClearAt 17 = .ok (.aload_n 1, 1) := by decide +kernel
theorem dX7_isClearAt_18 : decode cX7_isClearAt 18 = .ok (.iload_n 2, 1) := by decide +kernel
theorem dX7_isClearAt_19 : decode cX7_isClearAt 19 = .ok (.invokevirtual 46, 3) := by decide +kernel
theorem dX7_isClearAt_22 : decode cX7_isClearAt 22 = .ok (.i2l, 1) := by decide +kernel
theorem dX7_isClearAt_23 : decode cX7_isClearAt 23 = .ok (.lmul, 1) := by decide +kernel
theorem dX7_isClearAt_24 : decode cX7_isClearAt 24 = .ok (.lstore 4, 2) := by decide +kernel
theorem dX7_isClearAt_26 : decode cX7_isClearAt 26 = .ok (.lload 4, 2) := by decide +kernel
theorem dX7_isClearAt_28 : decode cX7_isClearAt 28 = .ok (.aload_n 1, 1) := by decide +kernel
theorem dX7_isClearAt_29 : decode cX7_isClearAt 29 = .ok (.iload_n 2, 1) := by decide +kernel
theorem dX7_isClearAt_30 : decode cX7_isClearAt 30 = .ok (.invokevirtual 50, 3) := by decide +kernel
theorem dX7_isClearAt_33 : decode cX7_isClearAt 33 = .ok (.i2l, 1) := by decide +kernel
theorem dX7_isClearAt_34 : decode cX7_isClearAt 34 = .ok (.iload_n 3, 1) := by decide +kernel
theorem dX7_isClearAt_35 : decode cX7_isClearAt 35 = .ok (.i2l, 1) := by decide +kernel
theorem dX7_isClearAt_36 : decode cX7_isClearAt 36 = .ok (.lmul, 1) := by decide +kernel
theorem dX7_isClearAt_37 : decode cX7_isClearAt 37 = .ok (.lcmp, 1) := by decide +kernel
theorem dX7_isClearAt_38 : decode cX7_isClearAt 38 = .ok (.ifCond .gt 7, 3) := by decide +kernel
theorem dX7_isClearAt_41 : decode cX7_isClearAt 41 = .ok (.iconst 1, 1) := by decide +kernel
theorem dX7_isClearAt_42 : decode cX7_isClearAt 42 = .ok (.goto 4, 3) := by decide +kernel
theorem dX7_isClearAt_45 : decode cX7_isClearAt 45 = .ok (.iconst 0, 1) := by decide +kernel
theorem dX7_isClearAt_46 : decode cX7_isClearAt 46 = .ok (.ireturn, 1) := by decide +kernel
set_option maxRecDepth 20000 in
theorem ggX7_nearerDegree_X7_distanceAbove : GoodIn wsX7_nearerDegree wsX7_distanceAbove := goodIn_r _ [8, 9, 10, 11, 12, 13, 14, 15, 16, 17, 18, 19, 20, 21, 22, 3, 23, 24, 25, 26, 27, 28, 29, 30, 31, 32, 33, 34, 35, 39, 40, 41] (by decide +kernel) (by decide +kernel)
set_option maxRecDepth 20000 in
theorem gX7_nearerDegree_X7_distanceAbove : GoodIn wsX7_nearerDegree (va_wsS RX7 53 yX7_distanceAbove wsX7_distanceAbove) := goodIn_app (goodIn_of _ (by decide +kernel)) ggX7_nearerDegree_X7_distanceAbove
set_option maxRecDepth 20000 in
theorem ggX7_nearerDegree_X7_distanceBelow : GoodIn wsX7_nearerDegree wsX7_distanceBelow := goodIn_r _ [38, 35, 29, 30, 12, 31, 15, 16, 17, 18, 19, 20, 21, 22, 3, 23, 24, 25, 26, 27, 32, 33, 34, 39, 40, 41] (by decide +kernel) (by decide +kernel)
set_option maxRecDepth 20000 in
theorem gX7_nearerDegree_X7_distanceBelow : GoodIn wsX7_nearerDegree (va_wsS RX7 57 yX7_distanceBelow wsX7_distanceBelow) := goodIn_app (goodIn_of _ (by decide +kernel)) ggX7_nearerDegree_X7_distanceBelow
theorem dX7_nearerDegree_0 : decode cX7_nearerDegree 0 = .ok (.aload_n 0, 1) := by decide +kernel
theorem dX7_nearerDegree_1 : decode cX7_nearerDegree 1 = .ok (.aload_n 1, 1) := by decide +kernel
theorem dX7_nearerDegree_2 : decode cX7_nearerDegree 2 = .ok (.iload_n 2, 1) := by decide +kernel
theorem dX7_nearerDegree_3 : decode cX7_nearerDegree 3 = .ok (.invokestatic 53, 3) := by decide +kernel
theorem dX7_nearerDegree_6 : decode cX7_nearerDegree 6 = .ok (.aload_n 0, 1) := by decide +kernel
theorem dX7_nearerDegree_7 : decode cX7_nearerDegree 7 = .ok (.aload_n 1, 1) := by decide +kernel
theorem dX7_nearerDegree_8 : decode cX7_nearerDegree 8 = .ok (.iload_n 3, 1) := by decide +kernel
theorem dX7_nearerDegree_9 : decode cX7_nearerDegree 9 = .ok (.invokestatic 57, 3) := by decide +kernel
theorem dX7_nearerDegree_12 : decode cX7_nearerDegree 12 = .ok (.lmul, 1) := by decide +kernel
theorem dX7_nearerDegree_13 : decode cX7_nearerDegree 13 = .ok (.lstore 4, 2) := by decide +kernel
theorem dX7_nearerDegree_15 : decode cX7_nearerDegree 15 = .ok (.aload_n 0, 1) := by decide +kernel
theorem dX7_nearerDegree_16 : decode cX7_nearerDegree 16 = .ok (.aload_n 1, 1) := by decide +kernel
theorem dX7_nearerDegree_17 : decode cX7_nearerDegree 17 = .ok (.iload_n 3, 1) := by decide +kernel
theorem dX7_nearerDegree_18 : decode cX7_nearerDegree 18 = .ok (.invokestatic 53, 3) := by decide +kernel
theorem dX7_nearerDegree_21 : decode cX7_nearerDegree 21 = .ok (.aload_n 0, 1) := by decide +kernel
theorem dX7_nearerDegree_22 : decode cX7_nearerDegree 22 = .ok (.aload_n 1, 1) := by decide +kernel
theorem dX7_nearerDegree_23 : decode cX7_nearerDegree 23 = .ok (.iload_n 2, 1) := by decide +kernel
theorem dX7_nearerDegree_24 : decode cX7_nearerDegree 24 = .ok (.invokestatic 57, 3) := by decide +kernel
theorem dX7_nearerDegree_27 : decode cX7_nearerDegree 27 = .ok (.lmul, 1) := by decide +kernel
theorem dX7_nearerDegree_28 : decode cX7_nearerDegree 28 = .ok (.lstore 6, 2) := by decide +kernel
theorem dX7_nearerDegree_30 : decode cX7_nearerDegree 30 = .ok (.lload 6, 2) := by decide +kernel
theorem dX7_nearerDegree_32 : decode cX7_nearerDegree 32 = .ok (.lload 4, 2) := by decide +kernel
theorem dX7_nearerDegree_34 : decode cX7_nearerDegree 34 = .ok (.lcmp, 1) := by decide +kernel
theorem dX7_nearerDegree_35 : decode cX7_nearerDegree 35 = .ok (.ifCond .ne 9, 3) := by decide +kernel
theorem dX7_nearerDegree_38 : decode cX7_nearerDegree 38 = .ok (.iload_n 2, 1) := by decide +kernel
theorem dX7_nearerDegree_39 : decode cX7_nearerDegree 39 = .ok (.iload_n 3, 1) := by decide +kernel
theorem dX7_nearerDegree_40 : decode cX7_nearerDegree 40 = .ok (.invokestatic 60, 3) := by decide +kernel
theorem dX7_nearerDegree_43 : decode cX7_nearerDegree 43 = .ok (.ireturn, 1) := by decide +kernel
theorem dX7_nearerDegree_44 : decode cX7_nearerDegree 44 = .ok (.lload 6, 2) := by decide +kernel
theorem dX7_nearerDegree_46 : decode cX7_nearerDegree 46 = .ok (.lload 4, 2) := by decide +kernel
theorem dX7_nearerDegree_48 : decode cX7_nearerDegree 48 = .ok (.lcmp, 1) := by decide +kernel
theorem dX7_nearerDegree_49 : decode cX7_nearerDegree 49 = .ok (.ifCond .ge 7, 3) := by decide +kernel
theorem dX7_nearerDegree_52 : decode cX7_nearerDegree 52 = .ok (.iload_n 3, 1) := by decide +kernel
theorem dX7_nearerDegree_53 : decode cX7_nearerDegree 53 = .ok (.goto 4, 3) := by decide +kernel
theorem dX7_nearerDegree_56 : decode cX7_nearerDegree 56 = .ok (.iload_n 2, 1) := by decide +kernel
theorem dX7_nearerDegree_57 : decode cX7_nearerDegree 57 = .ok (.ireturn, 1) := by decide +kernel
set_option maxRecDepth 20000 in
theorem ggX7_distanceAbove_X4_above : GoodIn wsX7_distanceAbove wsX4_above := goodIn_r _ [5, 6, 7, 8, 9, 10, 4, 11, 12, 13, 14, 15, 16, 17, 18, 19, 20, 21, 22, 23, 24, 25, 26, 27, 29, 30, 31] (by decide +kernel) (by decide +kernel)
set_option maxRecDepth 20000 in
theorem gX7_distanceAbove_X4_above : GoodIn wsX7_distanceAbove (wsV RX7 50 RX4 yX4_above wsX4_above) := goodIn_app (goodIn_of _ (by decide +kernel)) ggX7_distanceAbove_X4_above
set_option maxRecDepth 20000 in
theorem ggX7_distanceAbove_X4_below : GoodIn wsX7_distanceAbove wsX4_below := goodIn_r _ [24, 7, 8, 9, 10, 4, 11, 12, 13, 14, 15, 16, 17, 18, 19, 20, 25, 26, 27, 29, 30, 31] (by decide +kernel) (by decide +kernel)
set_option maxRecDepth 20000 in
theorem gX7_distanceAbove_X4_below : GoodIn wsX7_distanceAbove (wsV RX7 46 RX4 yX4_below wsX4_below) := goodIn_app (goodIn_of _ (by decide +kernel)) ggX7_distanceAbove_X4_below
theorem dX7_distanceAbove_0 : decode cX7_distanceAbove 0 = .ok (.aload_n 1, 1) := by decide +kernel
theorem dX7_distanceAbove_1 : decode cX7_distanceAbove 1 = .ok (.iload_n 2, 1) := by decide +kernel
theorem dX7_distanceAbove_2 : decode cX7_distanceAbove 2 = .ok (.invokevirtual 50, 3) := by decide +kernel
theorem dX7_distanceAbove_5 : decode cX7_distanceAbove 5 = .ok (.i2l, 1) := by decide +kernel
theorem dX7_distanceAbove_6 : decode cX7_distanceAbove 6 = .ok (.aload_n 0, 1) := by decide +kernel
theorem dX7_distanceAbove_7 : decode cX7_distanceAbove 7 = .ok (.iload_n 2, 1) := by decide +kernel
theorem dX7_distanceAbove_8 : decode cX7_distanceAbove 8 = .ok (.invokevirtual 46, 3) := by decide +kernel
theorem dX7_distanceAbove_11 : decode cX7_distanceAbove 11 = .ok (.i2l, 1) := by decide +kernel
theorem dX7_distanceAbove_12 : decode cX7_distanceAbove 12 = .ok (.lmul, 1) := by decide +kernel
theorem dX7_distanceAbove_13 : decode cX7_distanceAbove 13 = .ok (.lstore_n 3, 1) := by decide +kernel
theorem dX7_distanceAbove_14 : decode cX7_distanceAbove 14 = .ok (.aload_n 0, 1) := by decide +kernel
theorem dX7_distanceAbove_15 : decode cX7_distanceAbove 15 = .ok (.iload_n 2, 1) := by decide +kernel
theorem dX7_distanceAbove_16 : decode cX7_distanceAbove 16 = .ok (.invokevirtual 50, 3) := by decide +kernel
theorem dX7_distanceAbove_19 : decode cX7_distanceAbove 19 = .ok (.i2l, 1) := by decide +kernel
theorem dX7_distanceAbove_20 : decode cX7_distanceAbove 20 = .ok (.aload_n 1, 1) := by decide +kernel
theorem dX7_distanceAbove_21 : decode cX7_distanceAbove 21 = .ok (.iload_n 2, 1) := by decide +kernel
theorem dX7_distanceAbove_22 : decode cX7_distanceAbove 22 = .ok (.invokevirtual 46, 3) := by decide +kernel
theorem dX7_distanceAbove_25 : decode cX7_distanceAbove 25 = .ok (.i2l, 1) := by decide +kernel
theorem dX7_distanceAbove_26 : decode cX7_distanceAbove 26 = .ok (.lmul, 1) := by decide +kernel
theorem dX7_distanceAbove_27 : decode cX7_distanceAbove 27 = .ok (.lstore 5, 2) := by decide +kernel
theorem dX7_distanceAbove_29 : decode cX7_distanceAbove 29 = .ok (.lload_n 3, 1) := by decide +kernel
theorem dX7_distanceAbove_30 : decode cX7_distanceAbove 30 = .ok (.lload 5, 2) := by decide +kernel
theorem dX7_distanceAbove_32 : decode cX7_distanceAbove 32 = .ok (.lsub, 1) := by decide +kernel
theorem dX7_distanceAbove_33 : decode cX7_distanceAbove 33 = .ok (.lreturn, 1) := by decide +kernel
set_option maxRecDepth 20000 in
theorem ggX7_distanceBelow_X4_below : GoodIn wsX7_distanceBelow wsX4_below := goodIn_r _ [5, 6, 7, 8, 9, 4, 10, 11, 12, 13, 14, 15, 16, 17, 18, 19, 20, 21, 22, 23, 24, 25] (by decide +kernel) (by decide +kernel)
set_option maxRecDepth 20000 in
theorem gX7_distanceBelow_X4_below : GoodIn wsX7_distanceBelow (wsV RX7 46 RX4 yX4_below wsX4_below) := goodIn_app (goodIn_of _ (by decide +kernel)) ggX7_distanceBelow_X4_below
theorem dX7_distanceBelow_0 : decode cX7_distanceBelow 0 = .ok (.aload_n 0, 1) := by decide +kernel
theorem dX7_distanceBelow_1 : decode cX7_distanceBelow 1 = .ok (.iload_n 2, 1) := by decide +kernel
theorem dX7_distanceBelow_2 : decode cX7_distanceBelow 2 = .ok (.invokevirtual 46, 3) := by decide +kernel
theorem dX7_distanceBelow_5 : decode cX7_distanceBelow 5 = .ok (.i2l, 1) := by decide +kernel
theorem dX7_distanceBelow_6 : decode cX7_distanceBelow 6 = .ok (.aload_n 1, 1) := by decide +kernel
theorem dX7_distanceBelow_7 : decode cX7_distanceBelow 7 = .ok (.iload_n 2, 1) := by decide +kernel
theorem dX7_distanceBelow_8 : decode cX7_distanceBelow 8 = .ok (.invokevirtual 46, 3) := by decide +kernel
theorem dX7_distanceBelow_11 : decode cX7_distanceBelow 11 = .ok (.i2l, 1) := by decide +kernel
theorem dX7_distanceBelow_12 : decode cX7_distanceBelow 12 = .ok (.lmul, 1) := by decide +kernel
theorem dX7_distanceBelow_13 : decode cX7_distanceBelow 13 = .ok (.lreturn, 1) := by decide +kernel
theorem dX8_init_0 : decode cX8_init 0 = .ok (.aload_n 0, 1) := by decide +kernel
theorem dX8_init_1 : decode cX8_init 1 = .ok (.invokespecial 3, 3) := by decide +kernel
theorem dX8_init_4 : decode cX8_init 4 = .ok (.aload_n 0, 1) := by decide +kernel
theorem dX8_init_5 : decode cX8_init 5 = .ok (.iconst 0, 1) := by decide +kernel
theorem dX8_init_6 : decode cX8_init 6 = .ok (.putfield 9, 3) := by decide +kernel
theorem dX8_init_9 : decode cX8_init 9 = .ok (.aload_n 0, 1) := by decide +kernel
theorem dX8_init_10 : decode cX8_init 10 = .ok (.iconst 0, 1) := by decide +kernel
theorem dX8_init_11 : decode cX8_init 11 = .ok (.putfield 15, 3) := by decide +kernel
theorem dX8_init_14 : decode cX8_init 14 = .ok (.aload_n 0, 1) := by decide +kernel
theorem dX8_init_15 : decode cX8_init 15 = .ok (.iconst 0, 1) := by decide +kernel
theorem dX8_init_16 : decode cX8_init 16 = .ok (.putfield 18, 3) := by decide +kernel
theorem dX8_init_19 : decode cX8_init 19 = .ok (.aload_n 0, 1) := by decide +kernel
theorem dX8_init_20 : decode cX8_init 20 = .ok (.iconst 0, 1) := by decide +kernel
theorem dX8_init_21 : decode cX8_init 21 = .ok (.putfield 21, 3) := by decide +kernel
theorem dX8_init_24 : decode cX8_init 24 = .ok (.return_, 1) := by decide +kernel
theorem dX8_become_0 : decode cX8_become 0 = .ok (.aload_n 0, 1) := by decide +kernel
theorem dX8_become_1 : decode cX8_become 1 = .ok (.iload_n 1, 1) := by decide +kernel
theorem dX8_become_2 : decode cX8_become 2 = .ok (.putfield 9, 3) := by decide +kernel
theorem dX8_become_5 : decode cX8_become 5 = .ok (.aload_n 0, 1) := by decide +kernel
theorem dX8_become_6 : decode cX8_become 6 = .ok (.iload_n 2, 1) := by decide +kernel
theorem dX8_become_7 : decode cX8_become 7 = .ok (.putfield 15, 3) := by decide +kernel
theorem dX8_become_10 : decode cX8_become 10 = .ok (.aload_n 0, 1) := by decide +kernel
end
section
theorem dX8_become_11 : decode cX8_become 11 = .ok (.iload_n 3, 1) := by decide +kernel
theorem dX8_become_12 : decode cX8_become 12 = .ok (.putfield 18, 3) := by decide +kernel
theorem dX8_become_15 : decode cX8_become 15 = .ok (.aload_n 0, 1) := by decide +kernel
theorem dX8_become_16 : decode cX8_become 16 = .ok (.iload 4, 2) := by decide +kernel
theorem dX8_become_18 : decode cX8_become 18 = .ok (.putfield 21, 3) := by decide +kernel
theorem dX8_become_21 : decode cX8_become 21 = .ok (.return_, 1) := by decide +kernel
set_option maxRecDepth 20000 in
theorem ggX8_isBroken_X9_wayUp : GoodIn wsX8_isBroken wsX9_wayUp := goodIn_r _ [9] (by decide +kernel) (by decide +kernel)
set_option maxRecDepth 20000 in
theorem gX8_isBroken_X9_wayUp_n33 : GoodIn wsX8_isBroken (wsX9_wayUp) := ggX8_isBroken_X9_wayUp
set_option maxRecDepth 20000 in
theorem ggX8_isBroken_X2_isDone : GoodIn wsX8_isBroken wsX2_isDone := goodIn_r _ [14, 15, 7, 8, 9, 16, 17, 18, 13, 19, 20, 30, 31] (by decide +kernel) (by decide +kernel)
set_option maxRecDepth 20000 in
theorem gX8_isBroken_X2_isDone : GoodIn wsX8_isBroken (wsV RX8 37 RX2 yX2_isDone wsX2_isDone) := goodIn_app (goodIn_of _ (by decide +kernel)) ggX8_isBroken_X2_isDone
set_option maxRecDepth 20000 in
theorem ggX8_isBroken_X2_length : GoodIn wsX8_isBroken wsX2_length := goodIn_r _ [19, 15, 20, 7, 8, 9, 30, 31] (by decide +kernel) (by decide +kernel)
set_option maxRecDepth 20000 in
theorem gX8_isBroken_X2_length : GoodIn wsX8_isBroken (wsV RX8 41 RX2 yX2_length wsX2_length) := goodIn_app (goodIn_of _ (by decide +kernel)) ggX8_isBroken_X2_length
set_option maxRecDepth 20000 in
theorem ggX8_isBroken_X2_isInside : GoodIn wsX8_isBroken wsX2_isInside := goodIn_r _ [25, 15, 7, 8, 9, 16, 17, 18, 13, 19, 20, 30, 31] (by decide +kernel) (by decide +kernel)
set_option maxRecDepth 20000 in
theorem gX8_isBroken_X2_isInside : GoodIn wsX8_isBroken (wsV RX8 45 RX2 yX2_isInside wsX2_isInside) := goodIn_app (goodIn_of _ (by decide +kernel)) ggX8_isBroken_X2_isInside
theorem dX8_isBroken_0 : decode cX8_isBroken 0 = .ok (.aload_n 0, 1) := by decide +kernel
theorem dX8_isBroken_1 : decode cX8_isBroken 1 = .ok (.getfield 9, 3) := by decide +kernel
theorem dX8_isBroken_4 : decode cX8_isBroken 4 = .ok (.tableswitch 137 0 2 #[28, 62, 108], 28) := by decide +kernel
theorem dX8_isBroken_32 : decode cX8_isBroken 32 = .ok (.aload_n 1, 1) := by decide +kernel
theorem dX8_isBroken_33 : decode cX8_isBroken 33 = .ok (.getfield 24, 3) := by decide +kernel
theorem dX8_isBroken_36 : decode cX8_isBroken 36 = .ok (.aload_n 0, 1) := by decide +kernel
theorem dX8_isBroken_37 : decode cX8_isBroken 37 = .ok (.getfield 15, 3) := by decide +kernel
theorem dX8_isBroken_40 : decode cX8_isBroken 40 = .ok (.iaload, 1) := by decide +kernel
theorem dX8_isBroken_41 : decode cX8_isBroken 41 = .ok (.aload_n 1, 1) := by decide +kernel
theorem dX8_isBroken_42 : decode cX8_isBroken 42 = .ok (.getfield 30, 3) := by decide +kernel
theorem dX8_isBroken_45 : decode cX8_isBroken 45 = .ok (.aload_n 0, 1) := by decide +kernel
theorem dX8_isBroken_46 : decode cX8_isBroken 46 = .ok (.getfield 18, 3) := by decide +kernel
theorem dX8_isBroken_49 : decode cX8_isBroken 49 = .ok (.iaload, 1) := by decide +kernel
theorem dX8_isBroken_50 : decode cX8_isBroken 50 = .ok (.invokestatic 33, 3) := by decide +kernel
theorem dX8_isBroken_53 : decode cX8_isBroken 53 = .ok (.aload_n 0, 1) := by decide +kernel
theorem dX8_isBroken_54 : decode cX8_isBroken 54 = .ok (.getfield 21, 3) := by decide +kernel
theorem dX8_isBroken_57 : decode cX8_isBroken 57 = .ok (.if_icmp .ge 7, 3) := by decide +kernel
theorem dX8_isBroken_60 : decode cX8_isBroken 60 = .ok (.iconst 1, 1) := by decide +kernel
theorem dX8_isBroken_61 : decode cX8_isBroken 61 = .ok (.goto 4, 3) := by decide +kernel
theorem dX8_isBroken_64 : decode cX8_isBroken 64 = .ok (.iconst 0, 1) := by decide +kernel
theorem dX8_isBroken_65 : decode cX8_isBroken 65 = .ok (.ireturn, 1) := by decide +kernel
theorem dX8_isBroken_66 : decode cX8_isBroken 66 = .ok (.aload_n 1, 1) := by decide +kernel
theorem dX8_isBroken_67 : decode cX8_isBroken 67 = .ok (.aload_n 0, 1) := by decide +kernel
theorem dX8_isBroken_68 : decode cX8_isBroken 68 = .ok (.getfield 15, 3) := by decide +kernel
theorem dX8_isBroken_71 : decode cX8_isBroken 71 = .ok (.aload_n 1, 1) := by decide +kernel
theorem dX8_isBroken_72 : decode cX8_isBroken 72 = .ok (.getfield 30, 3) := by decide +kernel
theorem dX8_isBroken_75 : decode cX8_isBroken 75 = .ok (.aload_n 0, 1) := by decide +kernel
theorem dX8_isBroken_76 : decode cX8_isBroken 76 = .ok (.getfield 18, 3) := by decide +kernel
theorem dX8_isBroken_79 : decode cX8_isBroken 79 = .ok (.iaload, 1) := by decide +kernel
theorem dX8_isBroken_80 : decode cX8_isBroken 80 = .ok (.invokevirtual 37, 3) := by decide +kernel
theorem dX8_isBroken_83 : decode cX8_isBroken 83 = .ok (.ifCond .ne 23, 3) := by decide +kernel
theorem dX8_isBroken_86 : decode cX8_isBroken 86 = .ok (.aload_n 1, 1) := by decide +kernel
theorem dX8_isBroken_87 : decode cX8_isBroken 87 = .ok (.aload_n 0, 1) := by decide +kernel
theorem dX8_isBroken_88 : decode cX8_isBroken 88 = .ok (.getfield 18, 3) := by decide +kernel
theorem dX8_isBroken_91 : decode cX8_isBroken 91 = .ok (.aload_n 1, 1) := by decide +kernel
theorem dX8_isBroken_92 : decode cX8_isBroken 92 = .ok (.getfield 30, 3) := by decide +kernel
theorem dX8_isBroken_95 : decode cX8_isBroken 95 = .ok (.aload_n 0, 1) := by decide +kernel
theorem dX8_isBroken_96 : decode cX8_isBroken 96 = .ok (.getfield 15, 3) := by decide +kernel
theorem dX8_isBroken_99 : decode cX8_isBroken 99 = .ok (.iaload, 1) := by decide +kernel
theorem dX8_isBroken_100 : decode cX8_isBroken 100 = .ok (.invokevirtual 37, 3) := by decide +kernel
theorem dX8_isBroken_103 : decode cX8_isBroken 103 = .ok (.ifCond .eq 7, 3) := by decide +kernel
theorem dX8_isBroken_106 : decode cX8_isBroken 106 = .ok (.iconst 1, 1) := by decide +kernel
theorem dX8_isBroken_107 : decode cX8_isBroken 107 = .ok (.goto 4, 3) := by decide +kernel
theorem dX8_isBroken_110 : decode cX8_isBroken 110 = .ok (.iconst 0, 1) := by decide +kernel
theorem dX8_isBroken_111 : decode cX8_isBroken 111 = .ok (.ireturn, 1) := by decide +kernel
theorem dX8_isBroken_112 : decode cX8_isBroken 112 = .ok (.aload_n 1, 1) := by decide +kernel
theorem dX8_isBroken_113 : decode cX8_isBroken 113 = .ok (.aload_n 0, 1) := by decide +kernel
theorem dX8_isBroken_114 : decode cX8_isBroken 114 = .ok (.getfield 15, 3) := by decide +kernel
theorem dX8_isBroken_117 : decode cX8_isBroken 117 = .ok (.invokevirtual 41, 3) := by decide +kernel
theorem dX8_isBroken_120 : decode cX8_isBroken 120 = .ok (.sipush 500, 3) := by decide +kernel
theorem dX8_isBroken_123 : decode cX8_isBroken 123 = .ok (.imul, 1) := by decide +kernel
theorem dX8_isBroken_124 : decode cX8_isBroken 124 = .ok (.iconst 3, 1) := by decide +kernel
theorem dX8_isBroken_125 : decode cX8_isBroken 125 = .ok (.iload_n 2, 1) := by decide +kernel
theorem dX8_isBroken_126 : decode cX8_isBroken 126 = .ok (.imul, 1) := by decide +kernel
theorem dX8_isBroken_127 : decode cX8_isBroken 127 = .ok (.aload_n 0, 1) := by decide +kernel
theorem dX8_isBroken_128 : decode cX8_isBroken 128 = .ok (.getfield 21, 3) := by decide +kernel
theorem dX8_isBroken_131 : decode cX8_isBroken 131 = .ok (.imul, 1) := by decide +kernel
theorem dX8_isBroken_132 : decode cX8_isBroken 132 = .ok (.if_icmp .ge 7, 3) := by decide +kernel
theorem dX8_isBroken_135 : decode cX8_isBroken 135 = .ok (.iconst 1, 1) := by decide +kernel
theorem dX8_isBroken_136 : decode cX8_isBroken 136 = .ok (.goto 4, 3) := by decide +kernel
theorem dX8_isBroken_139 : decode cX8_isBroken 139 = .ok (.iconst 0, 1) := by decide +kernel
theorem dX8_isBroken_140 : decode cX8_isBroken 140 = .ok (.ireturn, 1) := by decide +kernel
theorem dX8_isBroken_141 : decode cX8_isBroken 141 = .ok (.aload_n 1, 1) := by decide +kernel
theorem dX8_isBroken_142 : decode cX8_isBroken 142 = .ok (.aload_n 0, 1) := by decide +kernel
theorem dX8_isBroken_143 : decode cX8_isBroken 143 = .ok (.getfield 15, 3) := by decide +kernel
theorem dX8_isBroken_146 : decode cX8_isBroken 146 = .ok (.aload_n 0, 1) := by decide +kernel
theorem dX8_isBroken_147 : decode cX8_isBroken 147 = .ok (.getfield 18, 3) := by decide +kernel
theorem dX8_isBroken_150 : decode cX8_isBroken 150 = .ok (.invokevirtual 45, 3) := by decide +kernel
theorem dX8_isBroken_153 : decode cX8_isBroken 153 = .ok (.ifCond .ne 7, 3) := by decide +kernel
theorem dX8_isBroken_156 : decode cX8_isBroken 156 = .ok (.iconst 1, 1) := by decide +kernel
theorem dX8_isBroken_157 : decode cX8_isBroken 157 = .ok (.goto 4, 3) := by decide +kernel
theorem dX8_isBroken_160 : decode cX8_isBroken 160 = .ok (.iconst 0, 1) := by decide +kernel
theorem dX8_isBroken_161 : decode cX8_isBroken 161 = .ok (.ireturn, 1) := by decide +kernel
set_option maxRecDepth 20000 in
theorem ggX8_greatestPace_X2_length : GoodIn wsX8_greatestPace wsX2_length := goodIn_r _ [8, 9, 10, 11, 12, 13, 18, 19] (by decide +kernel) (by decide +kernel)
set_option maxRecDepth 20000 in
theorem gX8_greatestPace_X2_length : GoodIn wsX8_greatestPace (wsV RX8 41 RX2 yX2_length wsX2_length) := goodIn_app (goodIn_of _ (by decide +kernel)) ggX8_greatestPace_X2_length
theorem dX8_greatestPace_0 : decode cX8_greatestPace 0 = .ok (.aload_n 0, 1) := by decide +kernel
theorem dX8_greatestPace_1 : decode cX8_greatestPace 1 = .ok (.getfield 9, 3) := by decide +kernel
theorem dX8_greatestPace_4 : decode cX8_greatestPace 4 = .ok (.iconst 2, 1) := by decide +kernel
theorem dX8_greatestPace_5 : decode cX8_greatestPace 5 = .ok (.if_icmp .ne 11, 3) := by decide +kernel
theorem dX8_greatestPace_8 : decode cX8_greatestPace 8 = .ok (.aload_n 0, 1) := by decide +kernel
theorem dX8_greatestPace_9 : decode cX8_greatestPace 9 = .ok (.getfield 21, 3) := by decide +kernel
theorem dX8_greatestPace_12 : decode cX8_greatestPace 12 = .ok (.iconst 1, 1) := by decide +kernel
theorem dX8_greatestPace_13 : decode cX8_greatestPace 13 = .ok (.if_icmp .ge 6, 3) := by decide +kernel
theorem dX8_greatestPace_16 : decode cX8_greatestPace 16 = .ok (.bipush 60, 2) := by decide +kernel
theorem dX8_greatestPace_18 : decode cX8_greatestPace 18 = .ok (.ireturn, 1) := by decide +kernel
theorem dX8_greatestPace_19 : decode cX8_greatestPace 19 = .ok (.aload_n 1, 1) := by decide +kernel
theorem dX8_greatestPace_20 : decode cX8_greatestPace 20 = .ok (.aload_n 0, 1) := by decide +kernel
theorem dX8_greatestPace_21 : decode cX8_greatestPace 21 = .ok (.getfield 15, 3) := by decide +kernel
theorem dX8_greatestPace_24 : decode cX8_greatestPace 24 = .ok (.invokevirtual 41, 3) := by decide +kernel
theorem dX8_greatestPace_27 : decode cX8_greatestPace 27 = .ok (.sipush 500, 3) := by decide +kernel
theorem dX8_greatestPace_30 : decode cX8_greatestPace 30 = .ok (.imul, 1) := by decide +kernel
theorem dX8_greatestPace_31 : decode cX8_greatestPace 31 = .ok (.iconst 3, 1) := by decide +kernel
theorem dX8_greatestPace_32 : decode cX8_greatestPace 32 = .ok (.aload_n 0, 1) := by decide +kernel
theorem dX8_greatestPace_33 : decode cX8_greatestPace 33 = .ok (.getfield 21, 3) := by decide +kernel
theorem dX8_greatestPace_36 : decode cX8_greatestPace 36 = .ok (.imul, 1) := by decide +kernel
theorem dX8_greatestPace_37 : decode cX8_greatestPace 37 = .ok (.idiv, 1) := by decide +kernel
theorem dX8_greatestPace_38 : decode cX8_greatestPace 38 = .ok (.ireturn, 1) := by decide +kernel
set_option maxRecDepth 20000 in
theorem ggX9_init_X3_init : GoodIn wsX9_init wsX3_init := goodIn_r _ [37, 38, 2, 3, 39, 40, 41, 42, 43, 44, 45, 46, 47, 48, 49, 50, 51, 52, 53, 24, 54, 55, 56, 57, 58, 59, 60, 61, 62, 120, 121, 122, 123, 124, 154, 155, 156, 157, 158, 159] (by decide +kernel) (by decide +kernel)
set_option maxRecDepth 20000 in
theorem gX9_init_X3_init : GoodIn wsX9_init (wsX3_init) := ggX9_init_X3_init
set_option maxRecDepth 20000 in
theorem ggX9_init_X7_init : GoodIn wsX9_init wsX7_init := goodIn_r _ [65, 66, 2, 3, 67, 68, 69, 70, 71, 72, 73, 74, 24, 75, 76, 77, 78, 79, 80, 81, 140, 141, 160, 161, 162] (by decide +kernel) (by decide +kernel)
set_option maxRecDepth 20000 in
theorem gX9_init_X7_init : GoodIn wsX9_init (wsX7_init) := ggX9_init_X7_init
set_option maxRecDepth 20000 in
theorem ggX9_init_X6_init : GoodIn wsX9_init wsX6_init := goodIn_r _ [84, 85, 2, 3, 24, 86, 87, 88, 142, 143, 144] (by decide +kernel) (by decide +kernel)
set_option maxRecDepth 20000 in
theorem gX9_init_X6_init : GoodIn wsX9_init (wsX6_init) := ggX9_init_X6_init
set_option maxRecDepth 20000 in
theorem ggX9_init_X5_init : GoodIn wsX9_init wsX5_init := goodIn_r _ [91, 92, 2, 3, 24, 93, 94, 95, 96, 97, 98, 99, 145, 146, 147, 148, 149, 150] (by decide +kernel) (by decide +kernel)
set_option maxRecDepth 20000 in
theorem gX9_init_X5_init : GoodIn wsX9_init (wsX5_init) := ggX9_init_X5_init
set_option maxRecDepth 20000 in
theorem ggX9_init_X0_init : GoodIn wsX9_init wsX0_init := goodIn_r _ [102, 103, 2, 3, 104, 105, 106, 107, 108, 109, 110, 111, 112, 113, 114, 115, 116, 117, 118, 119, 151, 152, 153, 163, 164, 165, 166, 167, 168, 169] (by decide +kernel) (by decide +kernel)
set_option maxRecDepth 20000 in
theorem gX9_init_X0_init : GoodIn wsX9_init (wsX0_init) := ggX9_init_X0_init
theorem dX9_init_0 : decode cX9_init 0 = .ok (.aload_n 0, 1) := by decide +kernel
theorem dX9_init_1 : decode cX9_init 1 = .ok (.invokespecial 1, 3) := by decide +kernel
theorem dX9_init_4 : decode cX9_init 4 = .ok (.aload_n 0, 1) := by decide +kernel
theorem dX9_init_5 : decode cX9_init 5 = .ok (.new 7, 3) := by decide +kernel
theorem dX9_init_8 : decode cX9_init 8 = .ok (.dup, 1) := by decide +kernel
theorem dX9_init_9 : decode cX9_init 9 = .ok (.invokespecial 9, 3) := by decide +kernel
theorem dX9_init_12 : decode cX9_init 12 = .ok (.putfield 10, 3) := by decide +kernel
theorem dX9_init_15 : decode cX9_init 15 = .ok (.aload_n 0, 1) := by decide +kernel
theorem dX9_init_16 : decode cX9_init 16 = .ok (.new 16, 3) := by decide +kernel
theorem dX9_init_19 : decode cX9_init 19 = .ok (.dup, 1) := by decide +kernel
theorem dX9_init_20 : decode cX9_init 20 = .ok (.invokespecial 18, 3) := by decide +kernel
theorem dX9_init_23 : decode cX9_init 23 = .ok (.putfield 19, 3) := by decide +kernel
theorem dX9_init_26 : decode cX9_init 26 = .ok (.aload_n 0, 1) := by decide +kernel
theorem dX9_init_27 : decode cX9_init 27 = .ok (.new 23, 3) := by decide +kernel
theorem dX9_init_30 : decode cX9_init 30 = .ok (.dup, 1) := by decide +kernel
theorem dX9_init_31 : decode cX9_init 31 = .ok (.invokespecial 25, 3) := by decide +kernel
theorem dX9_init_34 : decode cX9_init 34 = .ok (.putfield 26, 3) := by decide +kernel
theorem dX9_init_37 : decode cX9_init 37 = .ok (.aload_n 0, 1) := by decide +kernel
theorem dX9_init_38 : decode cX9_init 38 = .ok (.new 30, 3) := by decide +kernel
theorem dX9_init_41 : decode cX9_init 41 = .ok (.dup, 1) := by decide +kernel
theorem dX9_init_42 : decode cX9_init 42 = .ok (.invokespecial 32, 3) := by decide +kernel
theorem dX9_init_45 : decode cX9_init 45 = .ok (.putfield 33, 3) := by decide +kernel
theorem dX9_init_48 : decode cX9_init 48 = .ok (.aload_n 0, 1) := by decide +kernel
theorem dX9_init_49 : decode cX9_init 49 = .ok (.new 37, 3) := by decide +kernel
theorem dX9_init_52 : decode cX9_init 52 = .ok (.dup, 1) := by decide +kernel
theorem dX9_init_53 : decode cX9_init 53 = .ok (.invokespecial 39, 3) := by decide +kernel
theorem dX9_init_56 : decode cX9_init 56 = .ok (.putfield 40, 3) := by decide +kernel
theorem dX9_init_59 : decode cX9_init 59 = .ok (.aload_n 0, 1) := by decide +kernel
theorem dX9_init_60 : decode cX9_init 60 = .ok (.bipush 6, 2) := by decide +kernel
theorem dX9_init_62 : decode cX9_init 62 = .ok (.newarray .int, 2) := by decide +kernel
theorem dX9_init_64 : decode cX9_init 64 = .ok (.putfield 44, 3) := by decide +kernel
theorem dX9_init_67 : decode cX9_init 67 = .ok (.aload_n 0, 1) := by decide +kernel
theorem dX9_init_68 : decode cX9_init 68 = .ok (.iconst 4, 1) := by decide +kernel
theorem dX9_init_69 : decode cX9_init 69 = .ok (.newarray .int, 2) := by decide +kernel
theorem dX9_init_71 : decode cX9_init 71 = .ok (.putfield 48, 3) := by decide +kernel
theorem dX9_init_74 : decode cX9_init 74 = .ok (.aload_n 0, 1) := by decide +kernel
theorem dX9_init_75 : decode cX9_init 75 = .ok (.iconst 4, 1) := by decide +kernel
theorem dX9_init_76 : decode cX9_init 76 = .ok (.newarray .int, 2) := by decide +kernel
theorem dX9_init_78 : decode cX9_init 78 = .ok (.putfield 51, 3) := by decide +kernel
theorem dX9_init_81 : decode cX9_init 81 = .ok (.aload_n 0, 1) := by decide +kernel
theorem dX9_init_82 : decode cX9_init 82 = .ok (.bipush 7, 2) := by decide +kernel
theorem dX9_init_84 : decode cX9_init 84 = .ok (.newarray .int, 2) := by decide +kernel
theorem dX9_init_86 : decode cX9_init 86 = .ok (.putfield 54, 3) := by decide +kernel
theorem dX9_init_89 : decode cX9_init 89 = .ok (.aload_n 0, 1) := by decide +kernel
theorem dX9_init_90 : decode cX9_init 90 = .ok (.iconst 0, 1) := by decide +kernel
theorem dX9_init_91 : decode cX9_init 91 = .ok (.putfield 57, 3) := by decide +kernel
theorem dX9_init_94 : decode cX9_init 94 = .ok (.aload_n 0, 1) := by decide +kernel
theorem dX9_init_95 : decode cX9_init 95 = .ok (.iconst 0, 1) := by decide +kernel
theorem dX9_init_96 : decode cX9_init 96 = .ok (.putfield 61, 3) := by decide +kernel
theorem dX9_init_99 : decode cX9_init 99 = .ok (.aload_n 0, 1) := by decide +kernel
theorem dX9_init_100 : decode cX9_init 100 = .ok (.sipush 500, 3) := by decide +kernel
theorem dX9_init_103 : decode cX9_init 103 = .ok (.putfield 64, 3) := by decide +kernel
theorem dX9_init_106 : decode cX9_init 106 = .ok (.aload_n 0, 1) := by decide +kernel
theorem dX9_init_107 : decode cX9_init 107 = .ok (.iconst 0, 1) := by decide +kernel
theorem dX9_init_108 : decode cX9_init 108 = .ok (.putfield 67, 3) := by decide +kernel
theorem dX9_init_111 : decode cX9_init 111 = .ok (.aload_n 0, 1) := by decide +kernel
theorem dX9_init_112 : decode cX9_init 112 = .ok (.sipush 200, 3) := by decide +kernel
theorem dX9_init_115 : decode cX9_init 115 = .ok (.putfield 70, 3) := by decide +kernel
theorem dX9_init_118 : decode cX9_init 118 = .ok (.aload_n 0, 1) := by decide +kernel
theorem dX9_init_119 : decode cX9_init 119 = .ok (.iconst 0, 1) := by decide +kernel
theorem dX9_init_120 : decode cX9_init 120 = .ok (.putfield 73, 3) := by decide +kernel
theorem dX9_init_123 : decode cX9_init 123 = .ok (.iconst 0, 1) := by decide +kernel
theorem dX9_init_124 : decode cX9_init 124 = .ok (.istore_n 1, 1) := by decide +kernel
theorem dX9_init_125 : decode cX9_init 125 = .ok (.iload_n 1, 1) := by decide +kernel
theorem dX9_init_126 : decode cX9_init 126 = .ok (.iconst 4, 1) := by decide +kernel
theorem dX9_init_127 : decode cX9_init 127 = .ok (.if_icmp .ge 18, 3) := by decide +kernel
theorem dX9_init_130 : decode cX9_init 130 = .ok (.aload_n 0, 1) := by decide +kernel
theorem dX9_init_131 : decode cX9_init 131 = .ok (.getfield 48, 3) := by decide +kernel
theorem dX9_init_134 : decode cX9_init 134 = .ok (.iload_n 1, 1) := by decide +kernel
theorem dX9_init_135 : decode cX9_init 135 = .ok (.sipush 500, 3) := by decide +kernel
theorem dX9_init_138 : decode cX9_init 138 = .ok (.iastore, 1) := by decide +kernel
theorem dX9_init_139 : decode cX9_init 139 = .ok (.iinc 1 1, 3) := by decide +kernel
theorem dX9_init_142 : decode cX9_init 142 = .ok (.goto (-17), 3) := by decide +kernel
theorem dX9_init_145 : decode cX9_init 145 = .ok (.return_, 1) := by decide +kernel
set_option maxRecDepth 20000 in
theorem ggX9_set_X9_isSetting : GoodIn wsX9_set wsX9_isSetting := goodIn_r _ [6, 7, 8, 5, 9, 10, 11, 12, 13, 14, 15, 16, 17, 18] (by decide +kernel) (by decide +kernel)
set_option maxRecDepth 20000 in
theorem gX9_set_X9_isSetting : GoodIn wsX9_set (va_wsS RX9 76 yX9_isSetting wsX9_isSetting) := goodIn_app (goodIn_of _ (by decide +kernel)) ggX9_set_X9_isSetting
set_option maxRecDepth 20000 in
theorem ggX9_set_X3_brokenIf : GoodIn wsX9_set wsX3_brokenIf := goodIn_r _ [23, 24, 25, 26, 27, 28, 29, 30, 31, 32, 33, 34, 35, 36, 37, 38, 39, 40, 41, 42, 43, 44, 45, 46, 47, 48, 49, 50, 51, 5, 52, 53, 54, 55, 56, 57, 58, 59, 60, 61, 62, 63, 64, 65, 82, 83, 84, 85, 86, 87, 88, 89, 90, 91, 92] (by decide +kernel) (by decide +kernel)
set_option maxRecDepth 20000 in
theorem gX9_set_X3_brokenIf : GoodIn wsX9_set (wsV RX9 80 RX3 yX3_brokenIf wsX3_brokenIf) := goodIn_app (goodIn_of _ (by decide +kernel)) ggX9_set_X3_brokenIf
set_option maxRecDepth 20000 in
theorem ggX9_set_X2_change : GoodIn wsX9_set wsX2_change := goodIn_r _ [39, 34, 35, 87, 88] (by decide +kernel) (by decide +kernel)
set_option maxRecDepth 20000 in
theorem gX9_set_X2_change : GoodIn wsX9_set (wsV RX9 88 RX2 yX2_change wsX2_change) := goodIn_app (goodIn_of _ (by decide +kernel)) ggX9_set_X2_change
theorem dX9_set_0 : decode cX9_set 0 = .ok (.iload_n 1, 1) := by decide +kernel
theorem dX9_set_1 : decode cX9_set 1 = .ok (.iload_n 2, 1) := by decide +kernel
theorem dX9_set_2 : decode cX9_set 2 = .ok (.iload_n 3, 1) := by decide +kernel
theorem dX9_set_3 : decode cX9_set 3 = .ok (.iload 4, 2) := by decide +kernel
theorem dX9_set_5 : decode cX9_set 5 = .ok (.invokestatic 76, 3) := by decide +kernel
theorem dX9_set_8 : decode cX9_set 8 = .ok (.ifCond .ne 5, 3) := by decide +kernel
theorem dX9_set_11 : decode cX9_set 11 = .ok (.iconst (-1), 1) := by decide +kernel
theorem dX9_set_12 : decode cX9_set 12 = .ok (.ireturn, 1) := by decide +kernel
theorem dX9_set_13 : decode cX9_set 13 = .ok (.aload_n 0, 1) := by decide +kernel
theorem dX9_set_14 : decode cX9_set 14 = .ok (.getfield 10, 3) := by decide +kernel
theorem dX9_set_17 : decode cX9_set 17 = .ok (.iload_n 1, 1) := by decide +kernel
theorem dX9_set_18 : decode cX9_set 18 = .ok (.iload_n 2, 1) := by decide +kernel
theorem dX9_set_19 : decode cX9_set 19 = .ok (.iload_n 3, 1) := by decide +kernel
theorem dX9_set_20 : decode cX9_set 20 = .ok (.iload 4, 2) := by decide +kernel
theorem dX9_set_22 : decode cX9_set 22 = .ok (.invokevirtual 80, 3) := by decide +kernel
theorem dX9_set_25 : decode cX9_set 25 = .ok (.istore 5, 2) := by decide +kernel
theorem dX9_set_27 : decode cX9_set 27 = .ok (.iload 5, 2) := by decide +kernel
theorem dX9_set_29 : decode cX9_set 29 = .ok (.iconst (-1), 1) := by decide +kernel
theorem dX9_set_30 : decode cX9_set 30 = .ok (.if_icmp .eq 9, 3) := by decide +kernel
theorem dX9_set_33 : decode cX9_set 33 = .ok (.bipush (-100), 2) := by decide +kernel
theorem dX9_set_35 : decode cX9_set 35 = .ok (.iload 5, 2) := by decide +kernel
theorem dX9_set_37 : decode cX9_set 37 = .ok (.isub, 1) := by decide +kernel
theorem dX9_set_38 : decode cX9_set 38 = .ok (.ireturn, 1) := by decide +kernel
theorem dX9_set_39 : decode cX9_set 39 = .ok (.aload_n 0, 1) := by decide +kernel
theorem dX9_set_40 : decode cX9_set 40 = .ok (.getfield 10, 3) := by decide +kernel
theorem dX9_set_43 : decode cX9_set 43 = .ok (.getfield 84, 3) := by decide +kernel
theorem dX9_set_46 : decode cX9_set 46 = .ok (.iload_n 1, 1) := by decide +kernel
theorem dX9_set_47 : decode cX9_set 47 = .ok (.aaload, 1) := by decide +kernel
theorem dX9_set_48 : decode cX9_set 48 = .ok (.iload_n 2, 1) := by decide +kernel
theorem dX9_set_49 : decode cX9_set 49 = .ok (.iload_n 3, 1) := by decide +kernel
theorem dX9_set_50 : decode cX9_set 50 = .ok (.iload 4, 2) := by decide +kernel
theorem dX9_set_52 : decode cX9_set 52 = .ok (.invokevirtual 88, 3) := by decide +kernel
theorem dX9_set_55 : decode cX9_set 55 = .ok (.iconst 1, 1) := by decide +kernel
theorem dX9_set_56 : decode cX9_set 56 = .ok (.ireturn, 1) := by decide +kernel
set_option maxRecDepth 20000 in
theorem ggX9_turn_X9_isSection : GoodIn wsX9_turn wsX9_isSection := goodIn_r _ [6, 7, 8, 5, 9] (by decide +kernel) (by decide +kernel)
set_option maxRecDepth 20000 in
theorem gX9_turn_X9_isSection : GoodIn wsX9_turn (va_wsS RX9 94 yX9_isSection wsX9_isSection) := goodIn_app (goodIn_of _ (by decide +kernel)) ggX9_turn_X9_isSection
set_option maxRecDepth 20000 in
theorem ggX9_turn_X9_isBetween : GoodIn wsX9_turn wsX9_isBetween := goodIn_r _ [9] (by decide +kernel) (by decide +kernel)
set_option maxRecDepth 20000 in
theorem gX9_turn_X9_isBetween : GoodIn wsX9_turn (va_wsS RX9 98 yX9_isBetween wsX9_isBetween) := goodIn_app (goodIn_of _ (by decide +kernel)) ggX9_turn_X9_isBetween
set_option maxRecDepth 20000 in
theorem ggX9_turn_X2_shift : GoodIn wsX9_turn wsX2_shift := goodIn_r _ [14, 15, 16, 17, 18, 19, 20, 41, 42] (by decide +kernel) (by decide +kernel)
set_option maxRecDepth 20000 in
theorem gX9_turn_X2_shift : GoodIn wsX9_turn (wsV RX9 102 RX2 yX2_shift wsX2_shift) := goodIn_app (goodIn_of _ (by decide +kernel)) ggX9_turn_X2_shift
theorem dX9_turn_0 : decode cX9_turn 0 = .ok (.iload_n 1, 1) := by decide +kernel
theorem dX9_turn_1 : decode cX9_turn 1 = .ok (.invokestatic 94, 3) := by decide +kernel
theorem dX9_turn_4 : decode cX9_turn 4 = .ok (.ifCond .eq 16, 3) := by decide +kernel
theorem dX9_turn_7 : decode cX9_turn 7 = .ok (.iload_n 2, 1) := by decide +kernel
theorem dX9_turn_8 : decode cX9_turn 8 = .ok (.sipush (-359), 3) := by decide +kernel
theorem dX9_turn_11 : decode cX9_turn 11 = .ok (.sipush 359, 3) := by decide +kernel
theorem dX9_turn_14 : decode cX9_turn 14 = .ok (.invokestatic 98, 3) := by decide +kernel
theorem dX9_turn_17 : decode cX9_turn 17 = .ok (.ifCond .ne 5, 3) := by decide +kernel
theorem dX9_turn_20 : decode cX9_turn 20 = .ok (.iconst (-1), 1) := by decide +kernel
theorem dX9_turn_21 : decode cX9_turn 21 = .ok (.ireturn, 1) := by decide +kernel
theorem dX9_turn_22 : decode cX9_turn 22 = .ok (.aload_n 0, 1) := by decide +kernel
theorem dX9_turn_23 : decode cX9_turn 23 = .ok (.getfield 10, 3) := by decide +kernel
theorem dX9_turn_26 : decode cX9_turn 26 = .ok (.getfield 84, 3) := by decide +kernel
theorem dX9_turn_29 : decode cX9_turn 29 = .ok (.iload_n 1, 1) := by decide +kernel
theorem dX9_turn_30 : decode cX9_turn 30 = .ok (.aaload, 1) := by decide +kernel
theorem dX9_turn_31 : decode cX9_turn 31 = .ok (.iload_n 2, 1) := by decide +kernel
theorem dX9_turn_32 : decode cX9_turn 32 = .ok (.invokevirtual 102, 3) := by decide +kernel
theorem dX9_turn_35 : decode cX9_turn 35 = .ok (.iconst 1, 1) := by decide +kernel
theorem dX9_turn_36 : decode cX9_turn 36 = .ok (.ireturn, 1) := by decide +kernel
set_option maxRecDepth 20000 in
theorem ggX9_copy_X9_isSection : GoodIn wsX9_copy wsX9_isSection := goodIn_r _ [6, 7, 8, 5, 9] (by decide +kernel) (by decide +kernel)
set_option maxRecDepth 20000 in
theorem gX9_copy_X9_isSection : GoodIn wsX9_copy (va_wsS RX9 94 yX9_isSection wsX9_isSection) := goodIn_app (goodIn_of _ (by decide +kernel)) ggX9_copy_X9_isSection
set_option maxRecDepth 20000 in
theorem ggX9_copy_X2_become : GoodIn wsX9_copy wsX2_become := goodIn_r _ [14, 15, 16, 37, 38] (by decide +kernel) (by decide +kernel)
set_option maxRecDepth 20000 in
theorem gX9_copy_X2_become : GoodIn wsX9_copy (wsV RX9 106 RX2 yX2_become wsX2_become) := goodIn_app (goodIn_of _ (by decide +kernel)) ggX9_copy_X2_become
theorem dX9_copy_0 : decode cX9_copy 0 = .ok (.iload_n 1, 1) := by decide +kernel
theorem dX9_copy_1 : decode cX9_copy 1 = .ok (.invokestatic 94, 3) := by decide +kernel
theorem dX9_copy_4 : decode cX9_copy 4 = .ok (.ifCond .eq 10, 3) := by decide +kernel
theorem dX9_copy_7 : decode cX9_copy 7 = .ok (.iload_n 2, 1) := by decide +kernel
theorem dX9_copy_8 : decode cX9_copy 8 = .ok (.invokestatic 94, 3) := by decide +kernel
theorem dX9_copy_11 : decode cX9_copy 11 = .ok (.ifCond .ne 5, 3) := by decide +kernel
theorem dX9_copy_14 : decode cX9_copy 14 = .ok (.iconst (-1), 1) := by decide +kernel
theorem dX9_copy_15 : decode cX9_copy 15 = .ok (.ireturn, 1) := by decide +kernel
theorem dX9_copy_16 : decode cX9_copy 16 = .ok (.aload_n 0, 1) := by decide +kernel
theorem dX9_copy_17 : decode cX9_copy 17 = .ok (.getfield 10, 3) := by decide +kernel
theorem dX9_copy_20 : decode cX9_copy 20 = .ok (.getfield 84, 3) := by decide +kernel
theorem dX9_copy_23 : decode cX9_copy 23 = .ok (.iload_n 1, 1) := by decide +kernel
theorem dX9_copy_24 : decode cX9_copy 24 = .ok (.aaload, 1) := by decide +kernel
theorem dX9_copy_25 : decode cX9_copy 25 = .ok (.aload_n 0, 1) := by decide +kernel
theorem dX9_copy_26 : decode cX9_copy 26 = .ok (.getfield 10, 3) := by decide +kernel
theorem dX9_copy_29 : decode cX9_copy 29 = .ok (.getfield 84, 3) := by decide +kernel
theorem dX9_copy_32 : decode cX9_copy 32 = .ok (.iload_n 2, 1) := by decide +kernel
theorem dX9_copy_33 : decode cX9_copy 33 = .ok (.aaload, 1) := by decide +kernel
theorem dX9_copy_34 : decode cX9_copy 34 = .ok (.invokevirtual 106, 3) := by decide +kernel
theorem dX9_copy_37 : decode cX9_copy 37 = .ok (.iconst 1, 1) := by decide +kernel
theorem dX9_copy_38 : decode cX9_copy 38 = .ok (.ireturn, 1) := by decide +kernel
set_option maxRecDepth 20000 in
theorem ggX9_law_X9_isLaw : GoodIn wsX9_law wsX9_isLaw := goodIn_r _ [8, 9, 10, 11, 7, 12, 13, 14, 15] (by decide +kernel) (by decide +kernel)
set_option maxRecDepth 20000 in
theorem gX9_law_X9_isLaw : GoodIn wsX9_law (va_wsS RX9 110 yX9_isLaw wsX9_isLaw) := goodIn_app (goodIn_of _ (by decide +kernel)) ggX9_law_X9_isLaw
set_option maxRecDepth 20000 in
theorem ggX9_law_X8_become : GoodIn wsX9_law wsX8_become := goodIn_r _ [20, 21, 22, 23, 24, 76, 77, 78, 79] (by decide +kernel) (by decide +kernel)
set_option maxRecDepth 20000 in
theorem gX9_law_X8_become : GoodIn wsX9_law (wsV RX9 120 RX8 yX8_become wsX8_become) := goodIn_app (goodIn_of _ (by decide +kernel)) ggX9_law_X8_become
set_option maxRecDepth 20000 in
theorem ggX9_law_X3_anyBreaks : GoodIn wsX9_law wsX3_anyBreaks := goodIn_r _ [29, 30, 31, 32, 33, 34, 19, 35, 21, 36, 22, 37, 23, 24, 38, 7, 39, 40, 41, 42, 43, 44, 45, 46, 47, 48, 49, 50, 51, 52, 53, 54, 55, 71, 72, 73, 74, 75, 76, 77, 78, 79, 80, 81] (by decide +kernel) (by decide +kernel)
set_option maxRecDepth 20000 in
theorem gX9_law_X3_anyBreaks : GoodIn wsX9_law (wsV RX9 128 RX3 yX3_anyBreaks wsX3_anyBreaks) := goodIn_app (goodIn_of _ (by decide +kernel)) ggX9_law_X3_anyBreaks
theorem dX9_law_0 : decode cX9_law 0 = .ok (.iload_n 1, 1) := by decide +kernel
theorem dX9_law_1 : decode cX9_law 1 = .ok (.iload_n 2, 1) := by decide +kernel
theorem dX9_law_2 : decode cX9_law 2 = .ok (.iload_n 3, 1) := by decide +kernel
theorem dX9_law_3 : decode cX9_law 3 = .ok (.iload 4, 2) := by decide +kernel
theorem dX9_law_5 : decode cX9_law 5 = .ok (.invokestatic 110, 3) := by decide +kernel
theorem dX9_law_8 : decode cX9_law 8 = .ok (.ifCond .ne 5, 3) := by decide +kernel
theorem dX9_law_11 : decode cX9_law 11 = .ok (.iconst (-1), 1) := by decide +kernel
theorem dX9_law_12 : decode cX9_law 12 = .ok (.ireturn, 1) := by decide +kernel
theorem dX9_law_13 : decode cX9_law 13 = .ok (.aload_n 0, 1) := by decide +kernel
theorem dX9_law_14 : decode cX9_law 14 = .ok (.getfield 10, 3) := by decide +kernel
theorem dX9_law_17 : decode cX9_law 17 = .ok (.getfield 113, 3) := by decide +kernel
theorem dX9_law_20 : decode cX9_law 20 = .ok (.bipush 16, 2) := by decide +kernel
theorem dX9_law_22 : decode cX9_law 22 = .ok (.if_icmp .lt 6, 3) := by decide +kernel
theorem dX9_law_25 : decode cX9_law 25 = .ok (.bipush (-2), 2) := by decide +kernel
theorem dX9_law_27 : decode cX9_law 27 = .ok (.ireturn, 1) := by decide +kernel
theorem dX9_law_28 : decode cX9_law 28 = .ok (.aload_n 0, 1) := by decide +kernel
theorem dX9_law_29 : decode cX9_law 29 = .ok (.getfield 10, 3) := by decide +kernel
theorem dX9_law_32 : decode cX9_law 32 = .ok (.getfield 113, 3) := by decide +kernel
theorem dX9_law_35 : decode cX9_law 35 = .ok (.istore 5, 2) := by decide +kernel
theorem dX9_law_37 : decode cX9_law 37 = .ok (.aload_n 0, 1) := by decide +kernel
theorem dX9_law_38 : decode cX9_law 38 = .ok (.getfield 10, 3) := by decide +kernel
theorem dX9_law_41 : decode cX9_law 41 = .ok (.getfield 116, 3) := by decide +kernel
theorem dX9_law_44 : decode cX9_law 44 = .ok (.iload 5, 2) := by decide +kernel
theorem dX9_law_46 : decode cX9_law 46 = .ok (.aaload, 1) := by decide +kernel
theorem dX9_law_47 : decode cX9_law 47 = .ok (.iload_n 1, 1) := by decide +kernel
theorem dX9_law_48 : decode cX9_law 48 = .ok (.iload_n 2, 1) := by decide +kernel
theorem dX9_law_49 : decode cX9_law 49 = .ok (.iload_n 3, 1) := by decide +kernel
theorem dX9_law_50 : decode cX9_law 50 = .ok (.iload 4, 2) := by decide +kernel
theorem dX9_law_52 : decode cX9_law 52 = .ok (.invokevirtual 120, 3) := by decide +kernel
theorem dX9_law_55 : decode cX9_law 55 = .ok (.aload_n 0, 1) := by decide +kernel
theorem dX9_law_56 : decode cX9_law 56 = .ok (.getfield 10, 3) := by decide +kernel
theorem dX9_law_59 : decode cX9_law 59 = .ok (.iload 5, 2) := by decide +kernel
theorem dX9_law_61 : decode cX9_law 61 = .ok (.aload_n 0, 1) := by decide +kernel
theorem dX9_law_62 : decode cX9_law 62 = .ok (.getfield 10, 3) := by decide +kernel
theorem dX9_law_65 : decode cX9_law 65 = .ok (.getfield 125, 3) := by decide +kernel
theorem dX9_law_68 : decode cX9_law 68 = .ok (.invokevirtual 128, 3) := by decide +kernel
theorem dX9_law_71 : decode cX9_law 71 = .ok (.ifCond .eq 9, 3) := by decide +kernel
theorem dX9_law_74 : decode cX9_law 74 = .ok (.bipush (-100), 2) := by decide +kernel
theorem dX9_law_76 : decode cX9_law 76 = .ok (.iload 5, 2) := by decide +kernel
theorem dX9_law_78 : decode cX9_law 78 = .ok (.isub, 1) := by decide +kernel
theorem dX9_law_79 : decode cX9_law 79 = .ok (.ireturn, 1) := by decide +kernel
theorem dX9_law_80 : decode cX9_law 80 = .ok (.aload_n 0, 1) := by decide +kernel
theorem dX9_law_81 : decode cX9_law 81 = .ok (.getfield 10, 3) := by decide +kernel
theorem dX9_law_84 : decode cX9_law 84 = .ok (.iload 5, 2) := by decide +kernel
theorem dX9_law_86 : decode cX9_law 86 = .ok (.iconst 1, 1) := by decide +kernel
theorem dX9_law_87 : decode cX9_law 87 = .ok (.iadd, 1) := by decide +kernel
theorem dX9_law_88 : decode cX9_law 88 = .ok (.putfield 113, 3) := by decide +kernel
theorem dX9_law_91 : decode cX9_law 91 = .ok (.iload 5, 2) := by decide +kernel
theorem dX9_law_93 : decode cX9_law 93 = .ok (.ireturn, 1) := by decide +kernel
theorem dX9_repeal_0 : decode cX9_repeal 0 = .ok (.aload_n 0, 1) := by decide +kernel
theorem dX9_repeal_1 : decode cX9_repeal 1 = .ok (.getfield 10, 3) := by decide +kernel
theorem dX9_repeal_4 : decode cX9_repeal 4 = .ok (.getfield 113, 3) := by decide +kernel
theorem dX9_repeal_7 : decode cX9_repeal 7 = .ok (.ifCond .ne 6, 3) := by decide +kernel
theorem dX9_repeal_10 : decode cX9_repeal 10 = .ok (.bipush (-4), 2) := by decide +kernel
theorem dX9_repeal_12 : decode cX9_repeal 12 = .ok (.ireturn, 1) := by decide +kernel
theorem dX9_repeal_13 : decode cX9_repeal 13 = .ok (.aload_n 0, 1) := by decide +kernel
theorem dX9_repeal_14 : decode cX9_repeal 14 = .ok (.getfield 10, 3) := by decide +kernel
theorem dX9_repeal_17 : decode cX9_repeal 17 = .ok (.dup, 1) := by decide +kernel
theorem dX9_repeal_18 : decode cX9_repeal 18 = .ok (.getfield 113, 3) := by decide +kernel
theorem dX9_repeal_21 : decode cX9_repeal 21 = .ok (.iconst 1, 1) := by decide +kernel
theorem dX9_repeal_22 : decode cX9_repeal 22 = .ok (.isub, 1) := by decide +kernel
theorem dX9_repeal_23 : decode cX9_repeal 23 = .ok (.putfield 113, 3) := by decide +kernel
theorem dX9_repeal_26 : decode cX9_repeal 26 = .ok (.aload_n 0, 1) := by decide +kernel
theorem dX9_repeal_27 : decode cX9_repeal 27 = .ok (.getfield 10, 3) := by decide +kernel
theorem dX9_repeal_30 : decode cX9_repeal 30 = .ok (.getfield 113, 3) := by decide +kernel
theorem dX9_repeal_33 : decode cX9_repeal 33 = .ok (.ireturn, 1) := by decide +kernel
set_option maxRecDepth 20000 in
theorem ggX9_pace_X9_isBetween : GoodIn wsX9_pace wsX9_isBetween := goodIn_r _ [6] (by decide +kernel) (by decide +kernel)
set_option maxRecDepth 20000 in
theorem gX9_pace_X9_isBetween : GoodIn wsX9_pace (va_wsS RX9 98 yX9_isBetween wsX9_isBetween) := goodIn_app (goodIn_of _ (by decide +kernel)) ggX9_pace_X9_isBetween
set_option maxRecDepth 20000 in
theorem ggX9_pace_X3_brokenAt : GoodIn wsX9_pace wsX3_brokenAt := goodIn_r _ [11, 12, 13, 14, 15, 10, 16, 17, 18, 19, 20, 21, 22, 23, 24, 25, 26, 27, 28, 29, 30, 5, 31, 32, 33, 34, 35, 36, 37, 38, 39, 40, 41, 42, 43, 44, 45, 46, 47, 63, 64, 65, 66, 67, 68, 69, 70, 71, 72, 73] (by decide +kernel) (by decide +kernel)
set_option maxRecDepth 20000 in
theorem gX9_pace_X3_brokenAt : GoodIn wsX9_pace (wsV RX9 132 RX3 yX3_brokenAt wsX3_brokenAt) := goodIn_app (goodIn_of _ (by decide +kernel)) ggX9_pace_X3_brokenAt
theorem dX9_pace_0 : decode cX9_pace 0 = .ok (.iload_n 1, 1) := by decide +kernel
theorem dX9_pace_1 : decode cX9_pace 1 = .ok (.iconst 1, 1) := by decide +kernel
theorem dX9_pace_2 : decode cX9_pace 2 = .ok (.bipush 60, 2) := by decide +kernel
theorem dX9_pace_4 : decode cX9_pace 4 = .ok (.invokestatic 98, 3) := by decide +kernel
theorem dX9_pace_7 : decode cX9_pace 7 = .ok (.ifCond .ne 5, 3) := by decide +kernel
theorem dX9_pace_10 : decode cX9_pace 10 = .ok (.iconst (-1), 1) := by decide +kernel
theorem dX9_pace_11 : decode cX9_pace 11 = .ok (.ireturn, 1) := by decide +kernel
theorem dX9_pace_12 : decode cX9_pace 12 = .ok (.aload_n 0, 1) := by decide +kernel
theorem dX9_pace_13 : decode cX9_pace 13 = .ok (.getfield 10, 3) := by decide +kernel
theorem dX9_pace_16 : decode cX9_pace 16 = .ok (.iload_n 1, 1) := by decide +kernel
theorem dX9_pace_17 : decode cX9_pace 17 = .ok (.invokevirtual 132, 3) := by decide +kernel
theorem dX9_pace_20 : decode cX9_pace 20 = .ok (.istore_n 2, 1) := by decide +kernel
theorem dX9_pace_21 : decode cX9_pace 21 = .ok (.iload_n 2, 1) := by decide +kernel
theorem dX9_pace_22 : decode cX9_pace 22 = .ok (.iconst (-1), 1) := by decide +kernel
theorem dX9_pace_23 : decode cX9_pace 23 = .ok (.if_icmp .eq 8, 3) := by decide +kernel
theorem dX9_pace_26 : decode cX9_pace 26 = .ok (.bipush (-100), 2) := by decide +kernel
theorem dX9_pace_28 : decode cX9_pace 28 = .ok (.iload_n 2, 1) := by decide +kernel
theorem dX9_pace_29 : decode cX9_pace 29 = .ok (.isub, 1) := by decide +kernel
theorem dX9_pace_30 : decode cX9_pace 30 = .ok (.ireturn, 1) := by decide +kernel
theorem dX9_pace_31 : decode cX9_pace 31 = .ok (.aload_n 0, 1) := by decide +kernel
theorem dX9_pace_32 : decode cX9_pace 32 = .ok (.getfield 10, 3) := by decide +kernel
theorem dX9_pace_35 : decode cX9_pace 35 = .ok (.getfield 125, 3) := by decide +kernel
theorem dX9_pace_38 : decode cX9_pace 38 = .ok (.istore_n 3, 1) := by decide +kernel
theorem dX9_pace_39 : decode cX9_pace 39 = .ok (.aload_n 0, 1) := by decide +kernel
theorem dX9_pace_40 : decode cX9_pace 40 = .ok (.getfield 10, 3) := by decide +kernel
theorem dX9_pace_43 : decode cX9_pace 43 = .ok (.iload_n 1, 1) := by decide +kernel
theorem dX9_pace_44 : decode cX9_pace 44 = .ok (.putfield 125, 3) := by decide +kernel
theorem dX9_pace_47 : decode cX9_pace 47 = .ok (.iload_n 3, 1) := by decide +kernel
theorem dX9_pace_48 : decode cX9_pace 48 = .ok (.ireturn, 1) := by decide +kernel
set_option maxRecDepth 20000 in
theorem ggX9_fastest_X3_greatestPace : GoodIn wsX9_fastest wsX3_greatestPace := goodIn_r _ [6, 7, 8, 9, 10, 11, 12, 13, 14, 15, 16, 17, 18, 19, 20, 21, 22, 23, 24, 25, 26, 27, 28, 29, 30, 31, 47, 48, 49, 50, 51, 52, 53, 54, 55, 56, 57] (by decide +kernel) (by decide +kernel)
set_option maxRecDepth 20000 in
theorem gX9_fastest_X3_greatestPace : GoodIn wsX9_fastest (wsV RX9 136 RX3 yX3_greatestPace wsX3_greatestPace) := goodIn_app (goodIn_of _ (by decide +kernel)) ggX9_fastest_X3_greatestPace
theorem dX9_fastest_0 : decode cX9_fastest 0 = .ok (.aload_n 0, 1) := by decide +kernel
theorem dX9_fastest_1 : decode cX9_fastest 1 = .ok (.getfield 10, 3) := by decide +kernel
theorem dX9_fastest_4 : decode cX9_fastest 4 = .ok (.invokevirtual 136, 3) := by decide +kernel
theorem dX9_fastest_7 : decode cX9_fastest 7 = .ok (.ireturn, 1) := by decide +kernel
set_option maxRecDepth 20000 in
theorem ggX9_act_X9_isSection : GoodIn wsX9_act wsX9_isSection := goodIn_r _ [8, 9, 10, 7, 11] (by decide +kernel) (by decide +kernel)
set_option maxRecDepth 20000 in
theorem gX9_act_X9_isSection : GoodIn wsX9_act (va_wsS RX9 94 yX9_isSection wsX9_isSection) := goodIn_app (goodIn_of _ (by decide +kernel)) ggX9_act_X9_isSection
set_option maxRecDepth 20000 in
theorem ggX9_act_X9_isAct : GoodIn wsX9_act wsX9_isAct := goodIn_r _ [14, 9, 10, 7, 11] (by decide +kernel) (by decide +kernel)
set_option maxRecDepth 20000 in
theorem gX9_act_X9_isAct : GoodIn wsX9_act (va_wsS RX9 140 yX9_isAct wsX9_isAct) := goodIn_app (goodIn_of _ (by decide +kernel)) ggX9_act_X9_isAct
set_option maxRecDepth 20000 in
theorem ggX9_act_X2_length : GoodIn wsX9_act wsX2_length := goodIn_r _ [19, 20, 21, 22, 7, 23, 55, 56] (by decide +kernel) (by decide +kernel)
set_option maxRecDepth 20000 in
theorem gX9_act_X2_length : GoodIn wsX9_act (wsV RX9 149 RX2 yX2_length wsX2_length) := goodIn_app (goodIn_of _ (by decide +kernel)) ggX9_act_X2_length
set_option maxRecDepth 20000 in
theorem ggX9_act_X9_isDegree : GoodIn wsX9_act wsX9_isDegree := goodIn_r _ [26, 9, 10, 7, 11] (by decide +kernel) (by decide +kernel)
set_option maxRecDepth 20000 in
theorem gX9_act_X9_isDegree : GoodIn wsX9_act (va_wsS RX9 152 yX9_isDegree wsX9_isDegree) := goodIn_app (goodIn_of _ (by decide +kernel)) ggX9_act_X9_isDegree
set_option maxRecDepth 20000 in
theorem ggX9_act_X2_isDone : GoodIn wsX9_act wsX2_isDone := goodIn_r _ [30, 20, 22, 7, 23, 31, 16, 17, 18, 19, 21, 55, 56] (by decide +kernel) (by decide +kernel)
set_option maxRecDepth 20000 in
theorem gX9_act_X2_isDone : GoodIn wsX9_act (wsV RX9 155 RX2 yX2_isDone wsX2_isDone) := goodIn_app (goodIn_of _ (by decide +kernel)) ggX9_act_X2_isDone
set_option maxRecDepth 20000 in
theorem ggX9_act_X9_asNumber : GoodIn wsX9_act wsX9_asNumber := goodIn_r _ [34] (by decide +kernel) (by decide +kernel)
set_option maxRecDepth 20000 in
theorem gX9_act_X9_asNumber : GoodIn wsX9_act (va_wsS RX9 158 yX9_asNumber wsX9_asNumber) := goodIn_app (goodIn_of _ (by decide +kernel)) ggX9_act_X9_asNumber
theorem dX9_act_0 : decode cX9_act 0 = .ok (.iload_n 1, 1) := by decide +kernel
theorem dX9_act_1 : decode cX9_act 1 = .ok (.invokestatic 94, 3) := by decide +kernel
theorem dX9_act_4 : decode cX9_act 4 = .ok (.ifCond .eq 10, 3) := by decide +kernel
theorem dX9_act_7 : decode cX9_act 7 = .ok (.iload_n 2, 1) := by decide +kernel
theorem dX9_act_8 : decode cX9_act 8 = .ok (.invokestatic 140, 3) := by decide +kernel
theorem dX9_act_11 : decode cX9_act 11 = .ok (.ifCond .ne 5, 3) := by decide +kernel
theorem dX9_act_14 : decode cX9_act 14 = .ok (.iconst (-1), 1) := by decide +kernel
theorem dX9_act_15 : decode cX9_act 15 = .ok (.ireturn, 1) := by decide +kernel
theorem dX9_act_16 : decode cX9_act 16 = .ok (.aload_n 0, 1) := by decide +kernel
theorem dX9_act_17 : decode cX9_act 17 = .ok (.getfield 10, 3) := by decide +kernel
theorem dX9_act_20 : decode cX9_act 20 = .ok (.getfield 84, 3) := by decide +kernel
theorem dX9_act_23 : decode cX9_act 23 = .ok (.iload_n 1, 1) := by decide +kernel
theorem dX9_act_24 : decode cX9_act 24 = .ok (.aaload, 1) := by decide +kernel
theorem dX9_act_25 : decode cX9_act 25 = .ok (.astore 5, 2) := by decide +kernel
theorem dX9_act_27 : decode cX9_act 27 = .ok (.iload_n 3, 1) := by decide +kernel
theorem dX9_act_28 : decode cX9_act 28 = .ok (.tableswitch 79 0 3 #[32, 40, 48, 55], 32) := by decide +kernel
theorem dX9_act_60 : decode cX9_act 60 = .ok (.aload 5, 2) := by decide +kernel
theorem dX9_act_62 : decode cX9_act 62 = .ok (.getfield 143, 3) := by decide +kernel
theorem dX9_act_65 : decode cX9_act 65 = .ok (.iload_n 2, 1) := by decide +kernel
theorem dX9_act_66 : decode cX9_act 66 = .ok (.iaload, 1) := by decide +kernel
theorem dX9_act_67 : decode cX9_act 67 = .ok (.ireturn, 1) := by decide +kernel
theorem dX9_act_68 : decode cX9_act 68 = .ok (.aload 5, 2) := by decide +kernel
theorem dX9_act_70 : decode cX9_act 70 = .ok (.getfield 146, 3) := by decide +kernel
theorem dX9_act_73 : decode cX9_act 73 = .ok (.iload_n 2, 1) := by decide +kernel
theorem dX9_act_74 : decode cX9_act 74 = .ok (.iaload, 1) := by decide +kernel
theorem dX9_act_75 : decode cX9_act 75 = .ok (.ireturn, 1) := by decide +kernel
theorem dX9_act_76 : decode cX9_act 76 = .ok (.aload 5, 2) := by decide +kernel
theorem dX9_act_78 : decode cX9_act 78 = .ok (.iload_n 2, 1) := by decide +kernel
theorem dX9_act_79 : decode cX9_act 79 = .ok (.invokevirtual 149, 3) := by decide +kernel
theorem dX9_act_82 : decode cX9_act 82 = .ok (.ireturn, 1) := by decide +kernel
theorem dX9_act_83 : decode cX9_act 83 = .ok (.iload 4, 2) := by decide +kernel
theorem dX9_act_85 : decode cX9_act 85 = .ok (.invokestatic 152, 3) := by decide +kernel
theorem dX9_act_88 : decode cX9_act 88 = .ok (.ifCond .eq 17, 3) := by decide +kernel
theorem dX9_act_91 : decode cX9_act 91 = .ok (.aload 5, 2) := by decide +kernel
theorem dX9_act_93 : decode cX9_act 93 = .ok (.iload_n 2, 1) := by decide +kernel
theorem dX9_act_94 : decode cX9_act 94 = .ok (.iload 4, 2) := by decide +kernel
theorem dX9_act_96 : decode cX9_act 96 = .ok (.invokevirtual 155, 3) := by decide +kernel
theorem dX9_act_99 : decode cX9_act 99 = .ok (.invokestatic 158, 3) := by decide +kernel
theorem dX9_act_102 : decode cX9_act 102 = .ok (.goto 4, 3) := by decide +kernel
theorem dX9_act_105 : decode cX9_act 105 = .ok (.iconst (-1), 1) := by decide +kernel
theorem dX9_act_106 : decode cX9_act 106 = .ok (.ireturn, 1) := by decide +kernel
theorem dX9_act_107 : decode cX9_act 107 = .ok (.iconst (-1), 1) := by decide +kernel
theorem dX9_act_108 : decode cX9_act 108 = .ok (.ireturn, 1) := by decide +kernel
set_option maxRecDepth 20000 in
theorem ggX9_would_X9_isSetting : GoodIn wsX9_would wsX9_isSetting := goodIn_r _ [5, 6, 7, 4, 8, 9, 10, 11, 12, 13, 14, 15, 16, 17] (by decide +kernel) (by decide +kernel)
set_option maxRecDepth 20000 in
theorem gX9_would_X9_isSetting : GoodIn wsX9_would (va_wsS RX9 76 yX9_isSetting wsX9_isSetting) := goodIn_app (goodIn_of _ (by decide +kernel)) ggX9_would_X9_isSetting
set_option maxRecDepth 20000 in
theorem ggX9_would_X3_brokenIf : GoodIn wsX9_would wsX3_brokenIf := goodIn_r _ [22, 23, 24, 25, 26, 27, 28, 29, 30, 31, 32, 33, 34, 35, 36, 37, 38, 39, 40, 41, 42, 43, 44, 45, 46, 47, 48, 49, 50, 4, 51, 52, 53, 54, 55, 56, 57, 58, 59, 60, 61, 62, 63, 64, 80, 81, 82, 83, 84, 85, 86, 87, 88, 89, 90] (by decide +kernel) (by decide +kernel)
set_option maxRecDepth 20000 in
theorem gX9_would_X3_brokenIf : GoodIn wsX9_would (wsV RX9 80 RX3 yX3_brokenIf wsX3_brokenIf) := goodIn_app (goodIn_of _ (by decide +kernel)) ggX9_would_X3_brokenIf
theorem dX9_would_0 : decode cX9_would 0 = .ok (.iload_n 1, 1) := by decide +kernel
theorem dX9_would_1 : decode cX9_would 1 = .ok (.iload_n 2, 1) := by decide +kernel
theorem dX9_would_2 : decode cX9_would 2 = .ok (.iload_n 3, 1) := by decide +kernel
theorem dX9_would_3 : decode cX9_would 3 = .ok (.iload 4, 2) := by decide +kernel
theorem dX9_would_5 : decode cX9_would 5 = .ok (.invokestatic 76, 3) := by decide +kernel
theorem dX9_would_8 : decode cX9_would 8 = .ok (.ifCond .ne 5, 3) := by decide +kernel
theorem dX9_would_11 : decode cX9_would 11 = .ok (.iconst (-1), 1) := by decide +kernel
theorem dX9_would_12 : decode cX9_would 12 = .ok (.ireturn, 1) := by decide +kernel
theorem dX9_would_13 : decode cX9_would 13 = .ok (.aload_n 0, 1) := by decide +kernel
theorem dX9_would_14 : decode cX9_would 14 = .ok (.getfield 10, 3) := by decide +kernel
theorem dX9_would_17 : decode cX9_would 17 = .ok (.iload_n 1, 1) := by decide +kernel
theorem dX9_would_18 : decode cX9_would 18 = .ok (.iload_n 2, 1) := by decide +kernel
theorem dX9_would_19 : decode cX9_would 19 = .ok (.iload_n 3, 1) := by decide +kernel
theorem dX9_would_20 : decode cX9_would 20 = .ok (.iload 4, 2) := by decide +kernel
theorem dX9_would_22 : decode cX9_would 22 = .ok (.invokevirtual 80, 3) := by decide +kernel
theorem dX9_would_25 : decode cX9_would 25 = .ok (.istore 5, 2) := by decide +kernel
theorem dX9_would_27 : decode cX9_would 27 = .ok (.iload 5, 2) := by decide +kernel
theorem dX9_would_29 : decode cX9_would 29 = .ok (.iconst (-1), 1) := by decide +kernel
theorem dX9_would_30 : decode cX9_would 30 = .ok (.if_icmp .ne 7, 3) := by decide +kernel
theorem dX9_would_33 : decode cX9_would 33 = .ok (.iconst 0, 1) := by decide +kernel
theorem dX9_would_34 : decode cX9_would 34 = .ok (.goto 7, 3) := by decide +kernel
theorem dX9_would_37 : decode cX9_would 37 = .ok (.iconst 1, 1) := by decide +kernel
theorem dX9_would_38 : decode cX9_would 38 = .ok (.iload 5, 2) := by decide +kernel
theorem dX9_would_40 : decode cX9_would 40 = .ok (.iadd, 1) := by decide +kernel
theorem dX9_would_41 : decode cX9_would 41 = .ok (.ireturn, 1) := by decide +kernel
set_option maxRecDepth 20000 in
theorem ggX9_arm_X9_isArm : GoodIn wsX9_arm wsX9_isArm := goodIn_r _ [7, 8, 9, 6, 10] (by decide +kernel) (by decide +kernel)
set_option maxRecDepth 20000 in
theorem gX9_arm_X9_isArm : GoodIn wsX9_arm (va_wsS RX9 162 yX9_isArm wsX9_isArm) := goodIn_app (goodIn_of _ (by decide +kernel)) ggX9_arm_X9_isArm
set_option maxRecDepth 20000 in
theorem ggX9_arm_X7_swapWithTold : GoodIn wsX9_arm wsX7_swapWithTold := goodIn_r _ [15, 16, 17, 72, 73] (by decide +kernel) (by decide +kernel)
set_option maxRecDepth 20000 in
theorem gX9_arm_X7_swapWithTold : GoodIn wsX9_arm (wsV RX9 174 RX7 yX7_swapWithTold wsX7_swapWithTold) := goodIn_app (goodIn_of _ (by decide +kernel)) ggX9_arm_X7_swapWithTold
set_option maxRecDepth 20000 in
theorem ggX9_arm_X7_isClear : GoodIn wsX9_arm wsX7_isClear := goodIn_r _ [21, 16, 22, 23, 14, 24, 25, 26, 27, 28, 29, 30, 31, 32, 33, 34, 35, 36, 37, 38, 39, 40, 41, 42, 43, 44, 45, 46, 47, 48, 49, 6, 50, 51, 52, 53, 54, 55, 56, 72, 73, 74, 75, 76] (by decide +kernel) (by decide +kernel)
set_option maxRecDepth 20000 in
theorem gX9_arm_X7_isClear : GoodIn wsX9_arm (wsV RX9 177 RX7 yX7_isClear wsX7_isClear) := goodIn_app (goodIn_of _ (by decide +kernel)) ggX9_arm_X7_isClear
theorem dX9_arm_0 : decode cX9_arm 0 = .ok (.iload_n 1, 1) := by decide +kernel
theorem dX9_arm_1 : decode cX9_arm 1 = .ok (.invokestatic 162, 3) := by decide +kernel
theorem dX9_arm_4 : decode cX9_arm 4 = .ok (.ifCond .ne 5, 3) := by decide +kernel
theorem dX9_arm_7 : decode cX9_arm 7 = .ok (.iconst (-1), 1) := by decide +kernel
theorem dX9_arm_8 : decode cX9_arm 8 = .ok (.ireturn, 1) := by decide +kernel
theorem dX9_arm_9 : decode cX9_arm 9 = .ok (.aload_n 0, 1) := by decide +kernel
theorem dX9_arm_10 : decode cX9_arm 10 = .ok (.getfield 19, 3) := by decide +kernel
theorem dX9_arm_13 : decode cX9_arm 13 = .ok (.getfield 165, 3) := by decide +kernel
theorem dX9_arm_16 : decode cX9_arm 16 = .ok (.getfield 169, 3) := by decide +kernel
theorem dX9_arm_19 : decode cX9_arm 19 = .ok (.istore_n 2, 1) := by decide +kernel
theorem dX9_arm_20 : decode cX9_arm 20 = .ok (.iload_n 2, 1) := by decide +kernel
theorem dX9_arm_21 : decode cX9_arm 21 = .ok (.ifCond .ne 6, 3) := by decide +kernel
theorem dX9_arm_24 : decode cX9_arm 24 = .ok (.bipush (-4), 2) := by decide +kernel
theorem dX9_arm_26 : decode cX9_arm 26 = .ok (.ireturn, 1) := by decide +kernel
theorem dX9_arm_27 : decode cX9_arm 27 = .ok (.aload_n 0, 1) := by decide +kernel
theorem dX9_arm_28 : decode cX9_arm 28 = .ok (.getfield 19, 3) := by decide +kernel
theorem dX9_arm_31 : decode cX9_arm 31 = .ok (.iload_n 1, 1) := by decide +kernel
theorem dX9_arm_32 : decode cX9_arm 32 = .ok (.invokevirtual 174, 3) := by decide +kernel
theorem dX9_arm_35 : decode cX9_arm 35 = .ok (.aload_n 0, 1) := by decide +kernel
theorem dX9_arm_36 : decode cX9_arm 36 = .ok (.getfield 19, 3) := by decide +kernel
theorem dX9_arm_39 : decode cX9_arm 39 = .ok (.invokevirtual 177, 3) := by decide +kernel
theorem dX9_arm_42 : decode cX9_arm 42 = .ok (.ifCond .ne 14, 3) := by decide +kernel
theorem dX9_arm_45 : decode cX9_arm 45 = .ok (.aload_n 0, 1) := by decide +kernel
theorem dX9_arm_46 : decode cX9_arm 46 = .ok (.getfield 19, 3) := by decide +kernel
theorem dX9_arm_49 : decode cX9_arm 49 = .ok (.iload_n 1, 1) := by decide +kernel
theorem dX9_arm_50 : decode cX9_arm 50 = .ok (.invokevirtual 174, 3) := by decide +kernel
theorem dX9_arm_53 : decode cX9_arm 53 = .ok (.bipush (-5), 2) := by decide +kernel
theorem dX9_arm_55 : decode cX9_arm 55 = .ok (.ireturn, 1) := by decide +kernel
theorem dX9_arm_56 : decode cX9_arm 56 = .ok (.aload_n 0, 1) := by decide +kernel
theorem dX9_arm_57 : decode cX9_arm 57 = .ok (.getfield 19, 3) := by decide +kernel
theorem dX9_arm_60 : decode cX9_arm 60 = .ok (.getfield 165, 3) := by decide +kernel
theorem dX9_arm_63 : decode cX9_arm 63 = .ok (.iconst 0, 1) := by decide +kernel
theorem dX9_arm_64 : decode cX9_arm 64 = .ok (.putfield 169, 3) := by decide +kernel
theorem dX9_arm_67 : decode cX9_arm 67 = .ok (.iload_n 2, 1) := by decide +kernel
theorem dX9_arm_68 : decode cX9_arm 68 = .ok (.ireturn, 1) := by decide +kernel
set_option maxRecDepth 20000 in
theorem ggX9_knot_X9_isDegree : GoodIn wsX9_knot wsX9_isDegree := goodIn_r _ [7, 8, 9, 6, 10] (by decide +kernel) (by decide +kernel)
set_option maxRecDepth 20000 in
theorem gX9_knot_X9_isDegree : GoodIn wsX9_knot (va_wsS RX9 152 yX9_isDegree wsX9_isDegree) := goodIn_app (goodIn_of _ (by decide +kernel)) ggX9_knot_X9_isDegree
set_option maxRecDepth 20000 in
theorem ggX9_knot_X9_isBetween : GoodIn wsX9_knot wsX9_isBetween := goodIn_r _ [10] (by decide +kernel) (by decide +kernel)
set_option maxRecDepth 20000 in
theorem gX9_knot_X9_isBetween : GoodIn wsX9_knot (va_wsS RX9 98 yX9_isBetween wsX9_isBetween) := goodIn_app (goodIn_of _ (by decide +kernel)) ggX9_knot_X9_isBetween
set_option maxRecDepth 20000 in
theorem ggX9_knot_X4_latest : GoodIn wsX9_knot wsX4_latest := goodIn_r _ [15, 16, 17, 40, 41, 42] (by decide +kernel) (by decide +kernel)
set_option maxRecDepth 20000 in
theorem gX9_knot_X4_latest : GoodIn wsX9_knot (wsV RX9 181 RX4 yX4_latest wsX4_latest) := goodIn_app (goodIn_of _ (by decide +kernel)) ggX9_knot_X4_latest
set_option maxRecDepth 20000 in
theorem ggX9_knot_X4_add : GoodIn wsX9_knot wsX4_add := goodIn_r _ [21, 17, 16, 22, 40, 41, 42] (by decide +kernel) (by decide +kernel)
set_option maxRecDepth 20000 in
theorem gX9_knot_X4_add : GoodIn wsX9_knot (wsV RX9 184 RX4 yX4_add wsX4_add) := goodIn_app (goodIn_of _ (by decide +kernel)) ggX9_knot_X4_add
theorem dX9_knot_0 : decode cX9_knot 0 = .ok (.iload_n 1, 1) := by decide +kernel
theorem dX9_knot_1 : decode cX9_knot 1 = .ok (.invokestatic 152, 3) := by decide +kernel
theorem dX9_knot_4 : decode cX9_knot 4 = .ok (.ifCond .eq 28, 3) := by decide +kernel
theorem dX9_knot_7 : decode cX9_knot 7 = .ok (.iload_n 2, 1) := by decide +kernel
theorem dX9_knot_8 : decode cX9_knot 8 = .ok (.iconst 0, 1) := by decide +kernel
theorem dX9_knot_9 : decode cX9_knot 9 = .ok (.sipush 1000, 3) := by decide +kernel
theorem dX9_knot_12 : decode cX9_knot 12 = .ok (.invokestatic 98, 3) := by decide +kernel
theorem dX9_knot_15 : decode cX9_knot 15 = .ok (.ifCond .eq 17, 3) := by decide +kernel
theorem dX9_knot_18 : decode cX9_knot 18 = .ok (.iload_n 1, 1) := by decide +kernel
theorem dX9_knot_19 : decode cX9_knot 19 = .ok (.aload_n 0, 1) := by decide +kernel
theorem dX9_knot_20 : decode cX9_knot 20 = .ok (.getfield 19, 3) := by decide +kernel
theorem dX9_knot_23 : decode cX9_knot 23 = .ok (.getfield 165, 3) := by decide +kernel
theorem dX9_knot_26 : decode cX9_knot 26 = .ok (.invokevirtual 181, 3) := by decide +kernel
theorem dX9_knot_29 : decode cX9_knot 29 = .ok (.if_icmp .gt 5, 3) := by decide +kernel
theorem dX9_knot_32 : decode cX9_knot 32 = .ok (.iconst (-1), 1) := by decide +kernel
theorem dX9_knot_33 : decode cX9_knot 33 = .ok (.ireturn, 1) := by decide +kernel
theorem dX9_knot_34 : decode cX9_knot 34 = .ok (.aload_n 0, 1) := by decide +kernel
theorem dX9_knot_35 : decode cX9_knot 35 = .ok (.getfield 19, 3) := by decide +kernel
theorem dX9_knot_38 : decode cX9_knot 38 = .ok (.getfield 165, 3) := by decide +kernel
theorem dX9_knot_41 : decode cX9_knot 41 = .ok (.getfield 169, 3) := by decide +kernel
theorem dX9_knot_44 : decode cX9_knot 44 = .ok (.bipush 6, 2) := by decide +kernel
theorem dX9_knot_46 : decode cX9_knot 46 = .ok (.if_icmp .lt 6, 3) := by decide +kernel
theorem dX9_knot_49 : decode cX9_knot 49 = .ok (.bipush (-2), 2) := by decide +kernel
theorem dX9_knot_51 : decode cX9_knot 51 = .ok (.ireturn, 1) := by decide +kernel
theorem dX9_knot_52 : decode cX9_knot 52 = .ok (.aload_n 0, 1) := by decide +kernel
theorem dX9_knot_53 : decode cX9_knot 53 = .ok (.getfield 19, 3) := by decide +kernel
theorem dX9_knot_56 : decode cX9_knot 56 = .ok (.getfield 165, 3) := by decide +kernel
theorem dX9_knot_59 : decode cX9_knot 59 = .ok (.iload_n 1, 1) := by decide +kernel
theorem dX9_knot_60 : decode cX9_knot 60 = .ok (.iload_n 2, 1) := by decide +kernel
theorem dX9_knot_61 : decode cX9_knot 61 = .ok (.invokevirtual 184, 3) := by decide +kernel
theorem dX9_knot_64 : decode cX9_knot 64 = .ok (.aload_n 0, 1) := by decide +kernel
theorem dX9_knot_65 : decode cX9_knot 65 = .ok (.getfield 19, 3) := by decide +kernel
theorem dX9_knot_68 : decode cX9_knot 68 = .ok (.getfield 165, 3) := by decide +kernel
theorem dX9_knot_71 : decode cX9_knot 71 = .ok (.getfield 169, 3) := by decide +kernel
theorem dX9_knot_74 : decode cX9_knot 74 = .ok (.ireturn, 1) := by decide +kernel
theorem dX9_forget_0 : decode cX9_forget 0 = .ok (.aload_n 0, 1) := by decide +kernel
theorem dX9_forget_1 : decode cX9_forget 1 = .ok (.getfield 19, 3) := by decide +kernel
theorem dX9_forget_4 : decode cX9_forget 4 = .ok (.getfield 165, 3) := by decide +kernel
theorem dX9_forget_7 : decode cX9_forget 7 = .ok (.getfield 169, 3) := by decide +kernel
theorem dX9_forget_10 : decode cX9_forget 10 = .ok (.istore_n 1, 1) := by decide +kernel
theorem dX9_forget_11 : decode cX9_forget 11 = .ok (.aload_n 0, 1) := by decide +kernel
theorem dX9_forget_12 : decode cX9_forget 12 = .ok (.getfield 19, 3) := by decide +kernel
theorem dX9_forget_15 : decode cX9_forget 15 = .ok (.getfield 165, 3) := by decide +kernel
theorem dX9_forget_18 : decode cX9_forget 18 = .ok (.iconst 0, 1) := by decide +kernel
theorem dX9_forget_19 : decode cX9_forget 19 = .ok (.putfield 169, 3) := by decide +kernel
theorem dX9_forget_22 : decode cX9_forget 22 = .ok (.iload_n 1, 1) := by decide +kernel
theorem dX9_forget_23 : decode cX9_forget 23 = .ok (.ireturn, 1) := by decide +kernel
set_option maxRecDepth 20000 in
theorem ggX9_place_X9_isArm : GoodIn wsX9_place wsX9_isArm := goodIn_r _ [6, 7, 8, 5, 9] (by decide +kernel) (by decide +kernel)
set_option maxRecDepth 20000 in
theorem gX9_place_X9_isArm : GoodIn wsX9_place (va_wsS RX9 162 yX9_isArm wsX9_isArm) := goodIn_app (goodIn_of _ (by decide +kernel)) ggX9_place_X9_isArm
set_option maxRecDepth 20000 in
theorem ggX9_place_X9_isDegree : GoodIn wsX9_place wsX9_isDegree := goodIn_r _ [12, 7, 8, 5, 9] (by decide +kernel) (by decide +kernel)
set_option maxRecDepth 20000 in
theorem gX9_place_X9_isDegree : GoodIn wsX9_place (va_wsS RX9 152 yX9_isDegree wsX9_isDegree) := goodIn_app (goodIn_of _ (by decide +kernel)) ggX9_place_X9_isDegree
set_option maxRecDepth 20000 in
theorem ggX9_place_X9_isBetween : GoodIn wsX9_place wsX9_isBetween := goodIn_r _ [9] (by decide +kernel) (by decide +kernel)
set_option maxRecDepth 20000 in
theorem gX9_place_X9_isBetween : GoodIn wsX9_place (va_wsS RX9 98 yX9_isBetween wsX9_isBetween) := goodIn_app (goodIn_of _ (by decide +kernel)) ggX9_place_X9_isBetween
set_option maxRecDepth 20000 in
theorem ggX9_place_X4_above : GoodIn wsX9_place wsX4_above := goodIn_r _ [17, 18, 19, 20, 21, 22, 16, 23, 24, 25, 26, 27, 28, 29, 30, 31, 32, 33, 34, 35, 36, 37, 5, 38, 61, 62, 63] (by decide +kernel) (by decide +kernel)
set_option maxRecDepth 20000 in
theorem gX9_place_X4_above : GoodIn wsX9_place (wsV RX9 192 RX4 yX4_above wsX4_above) := goodIn_app (goodIn_of _ (by decide +kernel)) ggX9_place_X4_above
set_option maxRecDepth 20000 in
theorem ggX9_place_X4_below : GoodIn wsX9_place wsX4_below := goodIn_r _ [36, 19, 20, 21, 22, 16, 23, 24, 25, 26, 27, 28, 29, 30, 31, 32, 37, 5, 38, 61, 62, 63] (by decide +kernel) (by decide +kernel)
set_option maxRecDepth 20000 in
theorem gX9_place_X4_below : GoodIn wsX9_place (wsV RX9 195 RX4 yX4_below wsX4_below) := goodIn_app (goodIn_of _ (by decide +kernel)) ggX9_place_X4_below
set_option maxRecDepth 20000 in
theorem ggX9_place_X9_greatestDivisor : GoodIn wsX9_place wsX9_greatestDivisor := goodIn_r _ [42, 43, 26, 27, 28] (by decide +kernel) (by decide +kernel)
set_option maxRecDepth 20000 in
theorem gX9_place_X9_greatestDivisor : GoodIn wsX9_place (va_wsS RX9 198 yX9_greatestDivisor wsX9_greatestDivisor) := goodIn_app (goodIn_of _ (by decide +kernel)) ggX9_place_X9_greatestDivisor
theorem dX9_place_0 : decode cX9_place 0 = .ok (.iload_n 1, 1) := by decide +kernel
theorem dX9_place_1 : decode cX9_place 1 = .ok (.invokestatic 162, 3) := by decide +kernel
theorem dX9_place_4 : decode cX9_place 4 = .ok (.ifCond .eq 19, 3) := by decide +kernel
theorem dX9_place_7 : decode cX9_place 7 = .ok (.iload_n 2, 1) := by decide +kernel
theorem dX9_place_8 : decode cX9_place 8 = .ok (.invokestatic 152, 3) := by decide +kernel
theorem dX9_place_11 : decode cX9_place 11 = .ok (.ifCond .eq 12, 3) := by decide +kernel
theorem dX9_place_14 : decode cX9_place 14 = .ok (.iload_n 3, 1) := by decide +kernel
theorem dX9_place_15 : decode cX9_place 15 = .ok (.iconst 0, 1) := by decide +kernel
theorem dX9_place_16 : decode cX9_place 16 = .ok (.iconst 1, 1) := by decide +kernel
theorem dX9_place_17 : decode cX9_place 17 = .ok (.invokestatic 98, 3) := by decide +kernel
theorem dX9_place_20 : decode cX9_place 20 = .ok (.ifCond .ne 5, 3) := by decide +kernel
theorem dX9_place_23 : decode cX9_place 23 = .ok (.iconst (-1), 1) := by decide +kernel
theorem dX9_place_24 : decode cX9_place 24 = .ok (.ireturn, 1) := by decide +kernel
theorem dX9_place_25 : decode cX9_place 25 = .ok (.aload_n 0, 1) := by decide +kernel
theorem dX9_place_26 : decode cX9_place 26 = .ok (.getfield 19, 3) := by decide +kernel
theorem dX9_place_29 : decode cX9_place 29 = .ok (.getfield 188, 3) := by decide +kernel
theorem dX9_place_32 : decode cX9_place 32 = .ok (.iload_n 1, 1) := by decide +kernel
theorem dX9_place_33 : decode cX9_place 33 = .ok (.aaload, 1) := by decide +kernel
theorem dX9_place_34 : decode cX9_place 34 = .ok (.iload_n 2, 1) := by decide +kernel
theorem dX9_place_35 : decode cX9_place 35 = .ok (.invokevirtual 192, 3) := by decide +kernel
theorem dX9_place_38 : decode cX9_place 38 = .ok (.istore 4, 2) := by decide +kernel
theorem dX9_place_40 : decode cX9_place 40 = .ok (.aload_n 0, 1) := by decide +kernel
theorem dX9_place_41 : decode cX9_place 41 = .ok (.getfield 19, 3) := by decide +kernel
theorem dX9_place_44 : decode cX9_place 44 = .ok (.getfield 188, 3) := by decide +kernel
theorem dX9_place_47 : decode cX9_place 47 = .ok (.iload_n 1, 1) := by decide +kernel
theorem dX9_place_48 : decode cX9_place 48 = .ok (.aaload, 1) := by decide +kernel
theorem dX9_place_49 : decode cX9_place 49 = .ok (.iload_n 2, 1) := by decide +kernel
theorem dX9_place_50 : decode cX9_place 50 = .ok (.invokevirtual 195, 3) := by decide +kernel
theorem dX9_place_53 : decode cX9_place 53 = .ok (.istore 5, 2) := by decide +kernel
theorem dX9_place_55 : decode cX9_place 55 = .ok (.iload 4, 2) := by decide +kernel
theorem dX9_place_57 : decode cX9_place 57 = .ok (.iload 5, 2) := by decide +kernel
theorem dX9_place_59 : decode cX9_place 59 = .ok (.invokestatic 198, 3) := by decide +kernel
theorem dX9_place_62 : decode cX9_place 62 = .ok (.istore 6, 2) := by decide +kernel
theorem dX9_place_64 : decode cX9_place 64 = .ok (.iload_n 3, 1) := by decide +kernel
theorem dX9_place_65 : decode cX9_place 65 = .ok (.ifCond .ne 11, 3) := by decide +kernel
theorem dX9_place_68 : decode cX9_place 68 = .ok (.iload 4, 2) := by decide +kernel
theorem dX9_place_70 : decode cX9_place 70 = .ok (.iload 6, 2) := by decide +kernel
theorem dX9_place_72 : decode cX9_place 72 = .ok (.idiv, 1) := by decide +kernel
theorem dX9_place_73 : decode cX9_place 73 = .ok (.goto 8, 3) := by decide +kernel
theorem dX9_place_76 : decode cX9_place 76 = .ok (.iload 5, 2) := by decide +kernel
theorem dX9_place_78 : decode cX9_place 78 = .ok (.iload 6, 2) := by decide +kernel
theorem dX9_place_80 : decode cX9_place 80 = .ok (.idiv, 1) := by decide +kernel
theorem dX9_place_81 : decode cX9_place 81 = .ok (.ireturn, 1) := by decide +kernel
set_option maxRecDepth 20000 in
theorem ggX9_nearest_X9_isArm : GoodIn wsX9_nearest wsX9_isArm := goodIn_r _ [6, 7, 8, 5, 9] (by decide +kernel) (by decide +kernel)
set_option maxRecDepth 20000 in
theorem gX9_nearest_X9_isArm : GoodIn wsX9_nearest (va_wsS RX9 162 yX9_isArm wsX9_isArm) := goodIn_app (goodIn_of _ (by decide +kernel)) ggX9_nearest_X9_isArm
set_option maxRecDepth 20000 in
theorem ggX9_nearest_X7_nearestDegree : GoodIn wsX9_nearest wsX7_nearestDegree := goodIn_r _ [14, 15, 16, 17, 18, 13, 19, 20, 21, 22, 23, 24, 25, 26, 27, 28, 29, 30, 31, 32, 33, 34, 35, 36, 37, 38, 39, 40, 41, 42, 43, 44, 45, 46, 47, 48, 49, 50, 5, 51, 52, 53, 54, 55, 73, 74, 75] (by decide +kernel) (by decide +kernel)
set_option maxRecDepth 20000 in
theorem gX9_nearest_X7_nearestDegree : GoodIn wsX9_nearest (wsV RX9 202 RX7 yX7_nearestDegree wsX7_nearestDegree) := goodIn_app (goodIn_of _ (by decide +kernel)) ggX9_nearest_X7_nearestDegree
theorem dX9_nearest_0 : decode cX9_nearest 0 = .ok (.iload_n 1, 1) := by decide +kernel
theorem dX9_nearest_1 : decode cX9_nearest 1 = .ok (.invokestatic 162, 3) := by decide +kernel
theorem dX9_nearest_4 : decode cX9_nearest 4 = .ok (.ifCond .eq 15, 3) := by decide +kernel
theorem dX9_nearest_7 : decode cX9_nearest 7 = .ok (.iload_n 2, 1) := by decide +kernel
theorem dX9_nearest_8 : decode cX9_nearest 8 = .ok (.invokestatic 162, 3) := by decide +kernel
theorem dX9_nearest_11 : decode cX9_nearest 11 = .ok (.ifCond .eq 8, 3) := by decide +kernel
theorem dX9_nearest_14 : decode cX9_nearest 14 = .ok (.iload_n 1, 1) := by decide +kernel
theorem dX9_nearest_15 : decode cX9_nearest 15 = .ok (.iload_n 2, 1) := by decide +kernel
theorem dX9_nearest_16 : decode cX9_nearest 16 = .ok (.if_icmp .lt 5, 3) := by decide +kernel
theorem dX9_nearest_19 : decode cX9_nearest 19 = .ok (.iconst (-1), 1) := by decide +kernel
theorem dX9_nearest_20 : decode cX9_nearest 20 = .ok (.ireturn, 1) := by decide +kernel
theorem dX9_nearest_21 : decode cX9_nearest 21 = .ok (.aload_n 0, 1) := by decide +kernel
theorem dX9_nearest_22 : decode cX9_nearest 22 = .ok (.getfield 19, 3) := by decide +kernel
theorem dX9_nearest_25 : decode cX9_nearest 25 = .ok (.aload_n 0, 1) := by decide +kernel
theorem dX9_nearest_26 : decode cX9_nearest 26 = .ok (.getfield 19, 3) := by decide +kernel
theorem dX9_nearest_29 : decode cX9_nearest 29 = .ok (.getfield 188, 3) := by decide +kernel
theorem dX9_nearest_32 : decode cX9_nearest 32 = .ok (.iload_n 1, 1) := by decide +kernel
theorem dX9_nearest_33 : decode cX9_nearest 33 = .ok (.aaload, 1) := by decide +kernel
theorem dX9_nearest_34 : decode cX9_nearest 34 = .ok (.aload_n 0, 1) := by decide +kernel
theorem dX9_nearest_35 : decode cX9_nearest 35 = .ok (.getfield 19, 3) := by decide +kernel
theorem dX9_nearest_38 : decode cX9_nearest 38 = .ok (.getfield 188, 3) := by decide +kernel
theorem dX9_nearest_41 : decode cX9_nearest 41 = .ok (.iload_n 2, 1) := by decide +kernel
theorem dX9_nearest_42 : decode cX9_nearest 42 = .ok (.aaload, 1) := by decide +kernel
theorem dX9_nearest_43 : decode cX9_nearest 43 = .ok (.invokevirtual 202, 3) := by decide +kernel
theorem dX9_nearest_46 : decode cX9_nearest 46 = .ok (.ireturn, 1) := by decide +kernel
set_option maxRecDepth 20000 in
theorem ggX9_stop_X9_isSection : GoodIn wsX9_stop wsX9_isSection := goodIn_r _ [6, 7, 8, 5, 9] (by decide +kernel) (by decide +kernel)
set_option maxRecDepth 20000 in
theorem gX9_stop_X9_isSection : GoodIn wsX9_stop (va_wsS RX9 94 yX9_isSection wsX9_isSection) := goodIn_app (goodIn_of _ (by decide +kernel)) ggX9_stop_X9_isSection
set_option maxRecDepth 20000 in
theorem ggX9_stop_X6_find : GoodIn wsX9_stop wsX6_find := goodIn_r _ [14, 15, 16, 37, 38, 39] (by decide +kernel) (by decide +kernel)
set_option maxRecDepth 20000 in
theorem gX9_stop_X6_find : GoodIn wsX9_stop (wsV RX9 206 RX6 yX6_find wsX6_find) := goodIn_app (goodIn_of _ (by decide +kernel)) ggX9_stop_X6_find
set_option maxRecDepth 20000 in
theorem ggX9_stop_X6_leave : GoodIn wsX9_stop wsX6_leave := goodIn_r _ [20, 15, 16, 21, 37, 38, 39] (by decide +kernel) (by decide +kernel)
set_option maxRecDepth 20000 in
theorem gX9_stop_X6_leave : GoodIn wsX9_stop (wsV RX9 209 RX6 yX6_leave wsX6_leave) := goodIn_app (goodIn_of _ (by decide +kernel)) ggX9_stop_X6_leave
theorem dX9_stop_0 : decode cX9_stop 0 = .ok (.iload_n 1, 1) := by decide +kernel
theorem dX9_stop_1 : decode cX9_stop 1 = .ok (.invokestatic 94, 3) := by decide +kernel
theorem dX9_stop_4 : decode cX9_stop 4 = .ok (.ifCond .ne 5, 3) := by decide +kernel
theorem dX9_stop_7 : decode cX9_stop 7 = .ok (.iconst (-1), 1) := by decide +kernel
theorem dX9_stop_8 : decode cX9_stop 8 = .ok (.ireturn, 1) := by decide +kernel
theorem dX9_stop_9 : decode cX9_stop 9 = .ok (.aload_n 0, 1) := by decide +kernel
theorem dX9_stop_10 : decode cX9_stop 10 = .ok (.getfield 26, 3) := by decide +kernel
theorem dX9_stop_13 : decode cX9_stop 13 = .ok (.iload_n 1, 1) := by decide +kernel
theorem dX9_stop_14 : decode cX9_stop 14 = .ok (.invokevirtual 206, 3) := by decide +kernel
theorem dX9_stop_17 : decode cX9_stop 17 = .ok (.istore_n 2, 1) := by decide +kernel
theorem dX9_stop_18 : decode cX9_stop 18 = .ok (.iload_n 2, 1) := by decide +kernel
theorem dX9_stop_19 : decode cX9_stop 19 = .ok (.iconst (-1), 1) := by decide +kernel
theorem dX9_stop_20 : decode cX9_stop 20 = .ok (.if_icmp .ne 6, 3) := by decide +kernel
theorem dX9_stop_23 : decode cX9_stop 23 = .ok (.bipush (-3), 2) := by decide +kernel
theorem dX9_stop_25 : decode cX9_stop 25 = .ok (.ireturn, 1) := by decide +kernel
theorem dX9_stop_26 : decode cX9_stop 26 = .ok (.aload_n 0, 1) := by decide +kernel
theorem dX9_stop_27 : decode cX9_stop 27 = .ok (.getfield 26, 3) := by decide +kernel
theorem dX9_stop_30 : decode cX9_stop 30 = .ok (.iload_n 2, 1) := by decide +kernel
theorem dX9_stop_31 : decode cX9_stop 31 = .ok (.invokevirtual 209, 3) := by decide +kernel
theorem dX9_stop_34 : decode cX9_stop 34 = .ok (.aload_n 0, 1) := by decide +kernel
theorem dX9_stop_35 : decode cX9_stop 35 = .ok (.getfield 26, 3) := by decide +kernel
theorem dX9_stop_38 : decode cX9_stop 38 = .ok (.getfield 212, 3) := by decide +kernel
theorem dX9_stop_41 : decode cX9_stop 41 = .ok (.ireturn, 1) := by decide +kernel
set_option maxRecDepth 20000 in
theorem ggX9_start_X9_isSection : GoodIn wsX9_start wsX9_isSection := goodIn_r _ [6, 7, 8, 5, 9] (by decide +kernel) (by decide +kernel)
set_option maxRecDepth 20000 in
theorem gX9_start_X9_isSection : GoodIn wsX9_start (va_wsS RX9 94 yX9_isSection wsX9_isSection) := goodIn_app (goodIn_of _ (by decide +kernel)) ggX9_start_X9_isSection
set_option maxRecDepth 20000 in
theorem ggX9_start_X6_find : GoodIn wsX9_start wsX6_find := goodIn_r _ [14, 15, 16, 36, 37, 38] (by decide +kernel) (by decide +kernel)
set_option maxRecDepth 20000 in
theorem gX9_start_X6_find : GoodIn wsX9_start (wsV RX9 206 RX6 yX6_find wsX6_find) := goodIn_app (goodIn_of _ (by decide +kernel)) ggX9_start_X6_find
set_option maxRecDepth 20000 in
theorem ggX9_start_X6_join : GoodIn wsX9_start wsX6_join := goodIn_r _ [20, 16, 15, 36, 37, 38] (by decide +kernel) (by decide +kernel)
set_option maxRecDepth 20000 in
theorem gX9_start_X6_join : GoodIn wsX9_start (wsV RX9 213 RX6 yX6_join wsX6_join) := goodIn_app (goodIn_of _ (by decide +kernel)) ggX9_start_X6_join
theorem dX9_start_0 : decode cX9_start 0 = .ok (.iload_n 1, 1) := by decide +kernel
theorem dX9_start_1 : decode cX9_start 1 = .ok (.invokestatic 94, 3) := by decide +kernel
theorem dX9_start_4 : decode cX9_start 4 = .ok (.ifCond .ne 5, 3) := by decide +kernel
theorem dX9_start_7 : decode cX9_start 7 = .ok (.iconst (-1), 1) := by decide +kernel
theorem dX9_start_8 : decode cX9_start 8 = .ok (.ireturn, 1) := by decide +kernel
theorem dX9_start_9 : decode cX9_start 9 = .ok (.aload_n 0, 1) := by decide +kernel
theorem dX9_start_10 : decode cX9_start 10 = .ok (.getfield 26, 3) := by decide +kernel
theorem dX9_start_13 : decode cX9_start 13 = .ok (.iload_n 1, 1) := by decide +kernel
theorem dX9_start_14 : decode cX9_start 14 = .ok (.invokevirtual 206, 3) := by decide +kernel
theorem dX9_start_17 : decode cX9_start 17 = .ok (.iconst (-1), 1) := by decide +kernel
theorem dX9_start_18 : decode cX9_start 18 = .ok (.if_icmp .eq 6, 3) := by decide +kernel
theorem dX9_start_21 : decode cX9_start 21 = .ok (.bipush (-3), 2) := by decide +kernel
theorem dX9_start_23 : decode cX9_start 23 = .ok (.ireturn, 1) := by decide +kernel
theorem dX9_start_24 : decode cX9_start 24 = .ok (.aload_n 0, 1) := by decide +kernel
theorem dX9_start_25 : decode cX9_start 25 = .ok (.getfield 26, 3) := by decide +kernel
theorem dX9_start_28 : decode cX9_start 28 = .ok (.iload_n 1, 1) := by decide +kernel
theorem dX9_start_29 : decode cX9_start 29 = .ok (.invokevirtual 213, 3) := by decide +kernel
theorem dX9_start_32 : decode cX9_start 32 = .ok (.aload_n 0, 1) := by decide +kernel
theorem dX9_start_33 : decode cX9_start 33 = .ok (.getfield 26, 3) := by decide +kernel
theorem dX9_start_36 : decode cX9_start 36 = .ok (.getfield 212, 3) := by decide +kernel
theorem dX9_start_39 : decode cX9_start 39 = .ok (.ireturn, 1) := by decide +kernel
set_option maxRecDepth 20000 in
theorem ggX9_job_X9_isSection : GoodIn wsX9_job wsX9_isSection := goodIn_r _ [5, 6, 7, 4, 8] (by decide +kernel) (by decide +kernel)
set_option maxRecDepth 20000 in
theorem gX9_job_X9_isSection : GoodIn wsX9_job (va_wsS RX9 94 yX9_isSection wsX9_isSection) := goodIn_app (goodIn_of _ (by decide +kernel)) ggX9_job_X9_isSection
set_option maxRecDepth 20000 in
theorem ggX9_job_X9_isJob : GoodIn wsX9_job wsX9_isJob := goodIn_r _ [11, 6, 7, 4, 8] (by decide +kernel) (by decide +kernel)
set_option maxRecDepth 20000 in
theorem gX9_job_X9_isJob : GoodIn wsX9_job (va_wsS RX9 216 yX9_isJob wsX9_isJob) := goodIn_app (goodIn_of _ (by decide +kernel)) ggX9_job_X9_isJob
theorem dX9_job_0 : decode cX9_job 0 = .ok (.iload_n 1, 1) := by decide +kernel
theorem dX9_job_1 : decode cX9_job 1 = .ok (.invokestatic 94, 3) := by decide +kernel
theorem dX9_job_4 : decode cX9_job 4 = .ok (.ifCond .eq 10, 3) := by decide +kernel
theorem dX9_job_7 : decode cX9_job 7 = .ok (.iload_n 2, 1) := by decide +kernel
theorem dX9_job_8 : decode cX9_job 8 = .ok (.invokestatic 216, 3) := by decide +kernel
theorem dX9_job_11 : decode cX9_job 11 = .ok (.ifCond .ne 5, 3) := by decide +kernel
theorem dX9_job_14 : decode cX9_job 14 = .ok (.iconst (-1), 1) := by decide +kernel
theorem dX9_job_15 : decode cX9_job 15 = .ok (.ireturn, 1) := by decide +kernel
theorem dX9_job_16 : decode cX9_job 16 = .ok (.aload_n 0, 1) := by decide +kernel
theorem dX9_job_17 : decode cX9_job 17 = .ok (.getfield 44, 3) := by decide +kernel
theorem dX9_job_20 : decode cX9_job 20 = .ok (.iload_n 1, 1) := by decide +kernel
theorem dX9_job_21 : decode cX9_job 21 = .ok (.iaload, 1) := by decide +kernel
theorem dX9_job_22 : decode cX9_job 22 = .ok (.istore_n 3, 1) := by decide +kernel
theorem dX9_job_23 : decode cX9_job 23 = .ok (.aload_n 0, 1) := by decide +kernel
theorem dX9_job_24 : decode cX9_job 24 = .ok (.getfield 44, 3) := by decide +kernel
theorem dX9_job_27 : decode cX9_job 27 = .ok (.iload_n 1, 1) := by decide +kernel
theorem dX9_job_28 : decode cX9_job 28 = .ok (.iload_n 2, 1) := by decide +kernel
theorem dX9_job_29 : decode cX9_job 29 = .ok (.iastore, 1) := by decide +kernel
theorem dX9_job_30 : decode cX9_job 30 = .ok (.iload_n 3, 1) := by decide +kernel
theorem dX9_job_31 : decode cX9_job 31 = .ok (.ireturn, 1) := by decide +kernel
set_option maxRecDepth 20000 in
theorem ggX9_aim_X9_isJob : GoodIn wsX9_aim wsX9_isJob := goodIn_r _ [6, 7, 8, 5, 9] (by decide +kernel) (by decide +kernel)
set_option maxRecDepth 20000 in
theorem gX9_aim_X9_isJob : GoodIn wsX9_aim (va_wsS RX9 216 yX9_isJob wsX9_isJob) := goodIn_app (goodIn_of _ (by decide +kernel)) ggX9_aim_X9_isJob
set_option maxRecDepth 20000 in
theorem ggX9_aim_X9_isBetween : GoodIn wsX9_aim wsX9_isBetween := goodIn_r _ [9] (by decide +kernel) (by decide +kernel)
set_option maxRecDepth 20000 in
theorem gX9_aim_X9_isBetween : GoodIn wsX9_aim (va_wsS RX9 98 yX9_isBetween wsX9_isBetween) := goodIn_app (goodIn_of _ (by decide +kernel)) ggX9_aim_X9_isBetween
set_option maxRecDepth 20000 in
theorem ggX9_aim_X9_isColour : GoodIn wsX9_aim wsX9_isColour := goodIn_r _ [12, 7, 8, 5, 9] (by decide +kernel) (by decide +kernel)
set_option maxRecDepth 20000 in
theorem gX9_aim_X9_isColour : GoodIn wsX9_aim (va_wsS RX9 219 yX9_isColour wsX9_isColour) := goodIn_app (goodIn_of _ (by decide +kernel)) ggX9_aim_X9_isColour
theorem dX9_aim_0 : decode cX9_aim 0 = .ok (.iload_n 1, 1) := by decide +kernel
theorem dX9_aim_1 : decode cX9_aim 1 = .ok (.invokestatic 216, 3) := by decide +kernel
theorem dX9_aim_4 : decode cX9_aim 4 = .ok (.ifCond .eq 22, 3) := by decide +kernel
theorem dX9_aim_7 : decode cX9_aim 7 = .ok (.iload_n 2, 1) := by decide +kernel
theorem dX9_aim_8 : decode cX9_aim 8 = .ok (.bipush 100, 2) := by decide +kernel
theorem dX9_aim_10 : decode cX9_aim 10 = .ok (.sipush 900, 3) := by decide +kernel
theorem dX9_aim_13 : decode cX9_aim 13 = .ok (.invokestatic 98, 3) := by decide +kernel
theorem dX9_aim_16 : decode cX9_aim 16 = .ok (.ifCond .eq 10, 3) := by decide +kernel
theorem dX9_aim_19 : decode cX9_aim 19 = .ok (.iload_n 3, 1) := by decide +kernel
theorem dX9_aim_20 : decode cX9_aim 20 = .ok (.invokestatic 219, 3) := by decide +kernel
theorem dX9_aim_23 : decode cX9_aim 23 = .ok (.ifCond .ne 5, 3) := by decide +kernel
theorem dX9_aim_26 : decode cX9_aim 26 = .ok (.iconst (-1), 1) := by decide +kernel
theorem dX9_aim_27 : decode cX9_aim 27 = .ok (.ireturn, 1) := by decide +kernel
theorem dX9_aim_28 : decode cX9_aim 28 = .ok (.aload_n 0, 1) := by decide +kernel
theorem dX9_aim_29 : decode cX9_aim 29 = .ok (.getfield 48, 3) := by decide +kernel
theorem dX9_aim_32 : decode cX9_aim 32 = .ok (.iload_n 1, 1) := by decide +kernel
theorem dX9_aim_33 : decode cX9_aim 33 = .ok (.iload_n 2, 1) := by decide +kernel
theorem dX9_aim_34 : decode cX9_aim 34 = .ok (.iastore, 1) := by decide +kernel
theorem dX9_aim_35 : decode cX9_aim 35 = .ok (.aload_n 0, 1) := by decide +kernel
theorem dX9_aim_36 : decode cX9_aim 36 = .ok (.getfield 51, 3) := by decide +kernel
theorem dX9_aim_39 : decode cX9_aim 39 = .ok (.iload_n 1, 1) := by decide +kernel
theorem dX9_aim_40 : decode cX9_aim 40 = .ok (.iload_n 3, 1) := by decide +kernel
theorem dX9_aim_41 : decode cX9_aim 41 = .ok (.iastore, 1) := by decide +kernel
theorem dX9_aim_42 : decode cX9_aim 42 = .ok (.iconst 1, 1) := by decide +kernel
theorem dX9_aim_43 : decode cX9_aim 43 = .ok (.ireturn, 1) := by decide +kernel
set_option maxRecDepth 20000 in
theorem ggX9_glass_X9_isColour : GoodIn wsX9_glass wsX9_isColour := goodIn_r _ [6, 7, 8, 5, 9] (by decide +kernel) (by decide +kernel)
set_option maxRecDepth 20000 in
theorem gX9_glass_X9_isColour : GoodIn wsX9_glass (va_wsS RX9 219 yX9_isColour wsX9_isColour) := goodIn_app (goodIn_of _ (by decide +kernel)) ggX9_glass_X9_isColour
set_option maxRecDepth 20000 in
theorem ggX9_glass_X9_isBetween : GoodIn wsX9_glass wsX9_isBetween := goodIn_r _ [9] (by decide +kernel) (by decide +kernel)
set_option maxRecDepth 20000 in
theorem gX9_glass_X9_isBetween : GoodIn wsX9_glass (va_wsS RX9 98 yX9_isBetween wsX9_isBetween) := goodIn_app (goodIn_of _ (by decide +kernel)) ggX9_glass_X9_isBetween
theorem dX9_glass_0 : decode cX9_glass 0 = .ok (.iload_n 1, 1) := by decide +kernel
theorem dX9_glass_1 : decode cX9_glass 1 = .ok (.invokestatic 219, 3) := by decide +kernel
theorem dX9_glass_4 : decode cX9_glass 4 = .ok (.ifCond .eq 13, 3) := by decide +kernel
theorem dX9_glass_7 : decode cX9_glass 7 = .ok (.iload_n 2, 1) := by decide +kernel
theorem dX9_glass_8 : decode cX9_glass 8 = .ok (.iconst 0, 1) := by decide +kernel
theorem dX9_glass_9 : decode cX9_glass 9 = .ok (.bipush 50, 2) := by decide +kernel
theorem dX9_glass_11 : decode cX9_glass 11 = .ok (.invokestatic 98, 3) := by decide +kernel
theorem dX9_glass_14 : decode cX9_glass 14 = .ok (.ifCond .ne 5, 3) := by decide +kernel
theorem dX9_glass_17 : decode cX9_glass 17 = .ok (.iconst (-1), 1) := by decide +kernel
theorem dX9_glass_18 : decode cX9_glass 18 = .ok (.ireturn, 1) := by decide +kernel
theorem dX9_glass_19 : decode cX9_glass 19 = .ok (.iload_n 1, 1) := by decide +kernel
theorem dX9_glass_20 : decode cX9_glass 20 = .ok (.aload_n 0, 1) := by decide +kernel
theorem dX9_glass_21 : decode cX9_glass 21 = .ok (.getfield 57, 3) := by decide +kernel
theorem dX9_glass_24 : decode cX9_glass 24 = .ok (.if_icmp .ne 6, 3) := by decide +kernel
theorem dX9_glass_27 : decode cX9_glass 27 = .ok (.bipush (-3), 2) := by decide +kernel
theorem dX9_glass_29 : decode cX9_glass 29 = .ok (.ireturn, 1) := by decide +kernel
theorem dX9_glass_30 : decode cX9_glass 30 = .ok (.aload_n 0, 1) := by decide +kernel
theorem dX9_glass_31 : decode cX9_glass 31 = .ok (.iload_n 1, 1) := by decide +kernel
theorem dX9_glass_32 : decode cX9_glass 32 = .ok (.putfield 57, 3) := by decide +kernel
theorem dX9_glass_35 : decode cX9_glass 35 = .ok (.aload_n 0, 1) := by decide +kernel
theorem dX9_glass_36 : decode cX9_glass 36 = .ok (.iload_n 2, 1) := by decide +kernel
theorem dX9_glass_37 : decode cX9_glass 37 = .ok (.putfield 61, 3) := by decide +kernel
theorem dX9_glass_40 : decode cX9_glass 40 = .ok (.iconst 1, 1) := by decide +kernel
theorem dX9_glass_41 : decode cX9_glass 41 = .ok (.ireturn, 1) := by decide +kernel
set_option maxRecDepth 20000 in
theorem ggX9_mould_X9_isSection : GoodIn wsX9_mould wsX9_isSection := goodIn_r _ [6, 7, 8, 5, 9] (by decide +kernel) (by decide +kernel)
set_option maxRecDepth 20000 in
theorem gX9_mould_X9_isSection : GoodIn wsX9_mould (va_wsS RX9 94 yX9_isSection wsX9_isSection) := goodIn_app (goodIn_of _ (by decide +kernel)) ggX9_mould_X9_isSection
set_option maxRecDepth 20000 in
theorem ggX9_mould_X9_isMould : GoodIn wsX9_mould wsX9_isMould := goodIn_r _ [12, 7, 8, 5, 9] (by decide +kernel) (by decide +kernel)
set_option maxRecDepth 20000 in
theorem gX9_mould_X9_isMould : GoodIn wsX9_mould (va_wsS RX9 222 yX9_isMould wsX9_isMould) := goodIn_app (goodIn_of _ (by decide +kernel)) ggX9_mould_X9_isMould
set_option maxRecDepth 20000 in
theorem ggX9_mould_X5_sectionOf : GoodIn wsX9_mould wsX5_sectionOf := goodIn_r _ [17, 18, 34, 35, 36, 37, 38, 39] (by decide +kernel) (by decide +kernel)
set_option maxRecDepth 20000 in
theorem gX9_mould_X5_sectionOf : GoodIn wsX9_mould (wsV RX9 225 RX5 yX5_sectionOf wsX5_sectionOf) := goodIn_app (goodIn_of _ (by decide +kernel)) ggX9_mould_X5_sectionOf
theorem dX9_mould_0 : decode cX9_mould 0 = .ok (.iload_n 1, 1) := by decide +kernel
theorem dX9_mould_1 : decode cX9_mould 1 = .ok (.invokestatic 94, 3) := by decide +kernel
theorem dX9_mould_4 : decode cX9_mould 4 = .ok (.ifCond .eq 10, 3) := by decide +kernel
theorem dX9_mould_7 : decode cX9_mould 7 = .ok (.iload_n 2, 1) := by decide +kernel
theorem dX9_mould_8 : decode cX9_mould 8 = .ok (.invokestatic 222, 3) := by decide +kernel
theorem dX9_mould_11 : decode cX9_mould 11 = .ok (.ifCond .ne 5, 3) := by decide +kernel
theorem dX9_mould_14 : decode cX9_mould 14 = .ok (.iconst (-1), 1) := by decide +kernel
theorem dX9_mould_15 : decode cX9_mould 15 = .ok (.ireturn, 1) := by decide +kernel
theorem dX9_mould_16 : decode cX9_mould 16 = .ok (.aload_n 0, 1) := by decide +kernel
theorem dX9_mould_17 : decode cX9_mould 17 = .ok (.getfield 33, 3) := by decide +kernel
theorem dX9_mould_20 : decode cX9_mould 20 = .ok (.iload_n 2, 1) := by decide +kernel
theorem dX9_mould_21 : decode cX9_mould 21 = .ok (.invokevirtual 225, 3) := by decide +kernel
theorem dX9_mould_24 : decode cX9_mould 24 = .ok (.iconst (-1), 1) := by decide +kernel
theorem dX9_mould_25 : decode cX9_mould 25 = .ok (.if_icmp .eq 6, 3) := by decide +kernel
theorem dX9_mould_28 : decode cX9_mould 28 = .ok (.bipush (-3), 2) := by decide +kernel
theorem dX9_mould_30 : decode cX9_mould 30 = .ok (.ireturn, 1) := by decide +kernel
theorem dX9_mould_31 : decode cX9_mould 31 = .ok (.aload_n 0, 1) := by decide +kernel
theorem dX9_mould_32 : decode cX9_mould 32 = .ok (.getfield 33, 3) := by decide +kernel
theorem dX9_mould_35 : decode cX9_mould 35 = .ok (.getfield 228, 3) := by decide +kernel
theorem dX9_mould_38 : decode cX9_mould 38 = .ok (.iload_n 1, 1) := by decide +kernel
theorem dX9_mould_39 : decode cX9_mould 39 = .ok (.iaload, 1) := by decide +kernel
theorem dX9_mould_40 : decode cX9_mould 40 = .ok (.istore_n 3, 1) := by decide +kernel
theorem dX9_mould_41 : decode cX9_mould 41 = .ok (.aload_n 0, 1) := by decide +kernel
theorem dX9_mould_42 : decode cX9_mould 42 = .ok (.getfield 33, 3) := by decide +kernel
theorem dX9_mould_45 : decode cX9_mould 45 = .ok (.getfield 228, 3) := by decide +kernel
theorem dX9_mould_48 : decode cX9_mould 48 = .ok (.iload_n 1, 1) := by decide +kernel
theorem dX9_mould_49 : decode cX9_mould 49 = .ok (.iload_n 2, 1) := by decide +kernel
theorem dX9_mould_50 : decode cX9_mould 50 = .ok (.iastore, 1) := by decide +kernel
theorem dX9_mould_51 : decode cX9_mould 51 = .ok (.iload_n 3, 1) := by decide +kernel
theorem dX9_mould_52 : decode cX9_mould 52 = .ok (.ireturn, 1) := by decide +kernel
set_option maxRecDepth 20000 in
theorem ggX9_swab_X9_isMould : GoodIn wsX9_swab wsX9_isMould := goodIn_r _ [6, 7, 8, 5, 9] (by decide +kernel) (by decide +kernel)
set_option maxRecDepth 20000 in
theorem gX9_swab_X9_isMould : GoodIn wsX9_swab (va_wsS RX9 222 yX9_isMould wsX9_isMould) := goodIn_app (goodIn_of _ (by decide +kernel)) ggX9_swab_X9_isMould
theorem dX9_swab_0 : decode cX9_swab 0 = .ok (.iload_n 1, 1) := by decide +kernel
theorem dX9_swab_1 : decode cX9_swab 1 = .ok (.invokestatic 222, 3) := by decide +kernel
theorem dX9_swab_4 : decode cX9_swab 4 = .ok (.ifCond .ne 5, 3) := by decide +kernel
theorem dX9_swab_7 : decode cX9_swab 7 = .ok (.iconst (-1), 1) := by decide +kernel
theorem dX9_swab_8 : decode cX9_swab 8 = .ok (.ireturn, 1) := by decide +kernel
theorem dX9_swab_9 : decode cX9_swab 9 = .ok (.aload_n 0, 1) := by decide +kernel
theorem dX9_swab_10 : decode cX9_swab 10 = .ok (.getfield 33, 3) := by decide +kernel
theorem dX9_swab_13 : decode cX9_swab 13 = .ok (.getfield 231, 3) := by decide +kernel
theorem dX9_swab_16 : decode cX9_swab 16 = .ok (.iload_n 1, 1) := by decide +kernel
theorem dX9_swab_17 : decode cX9_swab 17 = .ok (.iaload, 1) := by decide +kernel
theorem dX9_swab_18 : decode cX9_swab 18 = .ok (.istore_n 2, 1) := by decide +kernel
theorem dX9_swab_19 : decode cX9_swab 19 = .ok (.aload_n 0, 1) := by decide +kernel
theorem dX9_swab_20 : decode cX9_swab 20 = .ok (.getfield 33, 3) := by decide +kernel
theorem dX9_swab_23 : decode cX9_swab 23 = .ok (.getfield 231, 3) := by decide +kernel
theorem dX9_swab_26 : decode cX9_swab 26 = .ok (.iload_n 1, 1) := by decide +kernel
theorem dX9_swab_27 : decode cX9_swab 27 = .ok (.iconst 0, 1) := by decide +kernel
theorem dX9_swab_28 : decode cX9_swab 28 = .ok (.iastore, 1) := by decide +kernel
theorem dX9_swab_29 : decode cX9_swab 29 = .ok (.iload_n 2, 1) := by decide +kernel
theorem dX9_swab_30 : decode cX9_swab 30 = .ok (.ireturn, 1) := by decide +kernel
set_option maxRecDepth 20000 in
theorem ggX9_repair_X9_isMould : GoodIn wsX9_repair wsX9_isMould := goodIn_r _ [6, 7, 8, 5, 9] (by decide +kernel) (by decide +kernel)
set_option maxRecDepth 20000 in
theorem gX9_repair_X9_isMould : GoodIn wsX9_repair (va_wsS RX9 222 yX9_isMould wsX9_isMould) := goodIn_app (goodIn_of _ (by decide +kernel)) ggX9_repair_X9_isMould
set_option maxRecDepth 20000 in
theorem ggX9_repair_X5_makeNew : GoodIn wsX9_repair wsX5_makeNew := goodIn_r _ [14, 15, 16, 17, 33, 34, 35, 36, 37, 38] (by decide +kernel) (by decide +kernel)
set_option maxRecDepth 20000 in
theorem gX9_repair_X5_makeNew : GoodIn wsX9_repair (wsV RX9 237 RX5 yX5_makeNew wsX5_makeNew) := goodIn_app (goodIn_of _ (by decide +kernel)) ggX9_repair_X5_makeNew
theorem dX9_repair_0 : decode cX9_repair 0 = .ok (.iload_n 1, 1) := by decide +kernel
theorem dX9_repair_1 : decode cX9_repair 1 = .ok (.invokestatic 222, 3) := by decide +kernel
theorem dX9_repair_4 : decode cX9_repair 4 = .ok (.ifCond .ne 5, 3) := by decide +kernel
theorem dX9_repair_7 : decode cX9_repair 7 = .ok (.iconst (-1), 1) := by decide +kernel
theorem dX9_repair_8 : decode cX9_repair 8 = .ok (.ireturn, 1) := by decide +kernel
theorem dX9_repair_9 : decode cX9_repair 9 = .ok (.aload_n 0, 1) := by decide +kernel
theorem dX9_repair_10 : decode cX9_repair 10 = .ok (.getfield 33, 3) := by decide +kernel
theorem dX9_repair_13 : decode cX9_repair 13 = .ok (.getfield 234, 3) := by decide +kernel
theorem dX9_repair_16 : decode cX9_repair 16 = .ok (.iload_n 1, 1) := by decide +kernel
theorem dX9_repair_17 : decode cX9_repair 17 = .ok (.iaload, 1) := by decide +kernel
theorem dX9_repair_18 : decode cX9_repair 18 = .ok (.istore_n 2, 1) := by decide +kernel
theorem dX9_repair_19 : decode cX9_repair 19 = .ok (.aload_n 0, 1) := by decide +kernel
theorem dX9_repair_20 : decode cX9_repair 20 = .ok (.getfield 33, 3) := by decide +kernel
theorem dX9_repair_23 : decode cX9_repair 23 = .ok (.iload_n 1, 1) := by decide +kernel
theorem dX9_repair_24 : decode cX9_repair 24 = .ok (.invokevirtual 237, 3) := by decide +kernel
theorem dX9_repair_27 : decode cX9_repair 27 = .ok (.iload_n 2, 1) := by decide +kernel
theorem dX9_repair_28 : decode cX9_repair 28 = .ok (.ireturn, 1) := by decide +kernel
set_option maxRecDepth 20000 in
theorem ggX9_pull_X9_isMould : GoodIn wsX9_pull wsX9_isMould := goodIn_r _ [6, 7, 8, 5, 9] (by decide +kernel) (by decide +kernel)
set_option maxRecDepth 20000 in
theorem gX9_pull_X9_isMould : GoodIn wsX9_pull (va_wsS RX9 222 yX9_isMould wsX9_isMould) := goodIn_app (goodIn_of _ (by decide +kernel)) ggX9_pull_X9_isMould
set_option maxRecDepth 20000 in
theorem ggX9_pull_X9_asNumber : GoodIn wsX9_pull wsX9_asNumber := goodIn_r _ [12] (by decide +kernel) (by decide +kernel)
set_option maxRecDepth 20000 in
theorem gX9_pull_X9_asNumber : GoodIn wsX9_pull (va_wsS RX9 158 yX9_asNumber wsX9_asNumber) := goodIn_app (goodIn_of _ (by decide +kernel)) ggX9_pull_X9_asNumber
theorem dX9_pull_0 : decode cX9_pull 0 = .ok (.iload_n 1, 1) := by decide +kernel
theorem dX9_pull_1 : decode cX9_pull 1 = .ok (.invokestatic 222, 3) := by decide +kernel
theorem dX9_pull_4 : decode cX9_pull 4 = .ok (.ifCond .ne 5, 3) := by decide +kernel
theorem dX9_pull_7 : decode cX9_pull 7 = .ok (.iconst (-1), 1) := by decide +kernel
theorem dX9_pull_8 : decode cX9_pull 8 = .ok (.ireturn, 1) := by decide +kernel
theorem dX9_pull_9 : decode cX9_pull 9 = .ok (.aload_n 0, 1) := by decide +kernel
theorem dX9_pull_10 : decode cX9_pull 10 = .ok (.getfield 33, 3) := by decide +kernel
theorem dX9_pull_13 : decode cX9_pull 13 = .ok (.getfield 240, 3) := by decide +kernel
theorem dX9_pull_16 : decode cX9_pull 16 = .ok (.iload_n 1, 1) := by decide +kernel
theorem dX9_pull_17 : decode cX9_pull 17 = .ok (.baload, 1) := by decide +kernel
theorem dX9_pull_18 : decode cX9_pull 18 = .ok (.iload_n 2, 1) := by decide +kernel
theorem dX9_pull_19 : decode cX9_pull 19 = .ok (.if_icmp .eq 7, 3) := by decide +kernel
theorem dX9_pull_22 : decode cX9_pull 22 = .ok (.iconst 1, 1) := by decide +kernel
theorem dX9_pull_23 : decode cX9_pull 23 = .ok (.goto 4, 3) := by decide +kernel
theorem dX9_pull_26 : decode cX9_pull 26 = .ok (.iconst 0, 1) := by decide +kernel
theorem dX9_pull_27 : decode cX9_pull 27 = .ok (.istore_n 3, 1) := by decide +kernel
theorem dX9_pull_28 : decode cX9_pull 28 = .ok (.aload_n 0, 1) := by decide +kernel
theorem dX9_pull_29 : decode cX9_pull 29 = .ok (.getfield 33, 3) := by decide +kernel
theorem dX9_pull_32 : decode cX9_pull 32 = .ok (.getfield 240, 3) := by decide +kernel
theorem dX9_pull_35 : decode cX9_pull 35 = .ok (.iload_n 1, 1) := by decide +kernel
theorem dX9_pull_36 : decode cX9_pull 36 = .ok (.iload_n 2, 1) := by decide +kernel
theorem dX9_pull_37 : decode cX9_pull 37 = .ok (.bastore, 1) := by decide +kernel
theorem dX9_pull_38 : decode cX9_pull 38 = .ok (.iload_n 3, 1) := by decide +kernel
theorem dX9_pull_39 : decode cX9_pull 39 = .ok (.invokestatic 158, 3) := by decide +kernel
theorem dX9_pull_42 : decode cX9_pull 42 = .ok (.ireturn, 1) := by decide +kernel
set_option maxRecDepth 20000 in
theorem ggX9_rule_X9_isBetween : GoodIn wsX9_rule wsX9_isBetween := goodIn_r _ [6] (by decide +kernel) (by decide +kernel)
set_option maxRecDepth 20000 in
theorem gX9_rule_X9_isBetween : GoodIn wsX9_rule (va_wsS RX9 98 yX9_isBetween wsX9_isBetween) := goodIn_app (goodIn_of _ (by decide +kernel)) ggX9_rule_X9_isBetween
theorem dX9_rule_0 : decode cX9_rule 0 = .ok (.iload_n 1, 1) := by decide +kernel
theorem dX9_rule_1 : decode cX9_rule 1 = .ok (.ifCond .ne 28, 3) := by decide +kernel
theorem dX9_rule_4 : decode cX9_rule 4 = .ok (.iload_n 2, 1) := by decide +kernel
theorem dX9_rule_5 : decode cX9_rule 5 = .ok (.sipush (-200), 3) := by decide +kernel
theorem dX9_rule_8 : decode cX9_rule 8 = .ok (.sipush 200, 3) := by decide +kernel
theorem dX9_rule_11 : decode cX9_rule 11 = .ok (.invokestatic 98, 3) := by decide +kernel
theorem dX9_rule_14 : decode cX9_rule 14 = .ok (.ifCond .eq 15, 3) := by decide +kernel
theorem dX9_rule_17 : decode cX9_rule 17 = .ok (.aload_n 0, 1) := by decide +kernel
theorem dX9_rule_18 : decode cX9_rule 18 = .ok (.getfield 67, 3) := by decide +kernel
theorem dX9_rule_21 : decode cX9_rule 21 = .ok (.istore_n 3, 1) := by decide +kernel
theorem dX9_rule_22 : decode cX9_rule 22 = .ok (.aload_n 0, 1) := by decide +kernel
theorem dX9_rule_23 : decode cX9_rule 23 = .ok (.iload_n 2, 1) := by decide +kernel
theorem dX9_rule_24 : decode cX9_rule 24 = .ok (.putfield 67, 3) := by decide +kernel
theorem dX9_rule_27 : decode cX9_rule 27 = .ok (.iload_n 3, 1) := by decide +kernel
theorem dX9_rule_28 : decode cX9_rule 28 = .ok (.ireturn, 1) := by decide +kernel
theorem dX9_rule_29 : decode cX9_rule 29 = .ok (.iload_n 1, 1) := by decide +kernel
theorem dX9_rule_30 : decode cX9_rule 30 = .ok (.iconst 1, 1) := by decide +kernel
theorem dX9_rule_31 : decode cX9_rule 31 = .ok (.if_icmp .ne 26, 3) := by decide +kernel
theorem dX9_rule_34 : decode cX9_rule 34 = .ok (.iload_n 2, 1) := by decide +kernel
theorem dX9_rule_35 : decode cX9_rule 35 = .ok (.iconst 1, 1) := by decide +kernel
theorem dX9_rule_36 : decode cX9_rule 36 = .ok (.sipush 1000, 3) := by decide +kernel
theorem dX9_rule_39 : decode cX9_rule 39 = .ok (.invokestatic 98, 3) := by decide +kernel
theorem dX9_rule_42 : decode cX9_rule 42 = .ok (.ifCond .eq 15, 3) := by decide +kernel
theorem dX9_rule_45 : decode cX9_rule 45 = .ok (.aload_n 0, 1) := by decide +kernel
theorem dX9_rule_46 : decode cX9_rule 46 = .ok (.getfield 70, 3) := by decide +kernel
theorem dX9_rule_49 : decode cX9_rule 49 = .ok (.istore_n 3, 1) := by decide +kernel
theorem dX9_rule_50 : decode cX9_rule 50 = .ok (.aload_n 0, 1) := by decide +kernel
theorem dX9_rule_51 : decode cX9_rule 51 = .ok (.iload_n 2, 1) := by decide +kernel
theorem dX9_rule_52 : decode cX9_rule 52 = .ok (.putfield 70, 3) := by decide +kernel
theorem dX9_rule_55 : decode cX9_rule 55 = .ok (.iload_n 3, 1) := by decide +kernel
theorem dX9_rule_56 : decode cX9_rule 56 = .ok (.ireturn, 1) := by decide +kernel
theorem dX9_rule_57 : decode cX9_rule 57 = .ok (.sipush (-1000), 3) := by decide +kernel
theorem dX9_rule_60 : decode cX9_rule 60 = .ok (.ireturn, 1) := by decide +kernel
set_option maxRecDepth 20000 in
theorem ggX9_book_X9_isMould : GoodIn wsX9_book wsX9_isMould := goodIn_r _ [10, 11, 12, 9, 13] (by decide +kernel) (by decide +kernel)
set_option maxRecDepth 20000 in
theorem gX9_book_X9_isMould : GoodIn wsX9_book (va_wsS RX9 222 yX9_isMould wsX9_isMould) := goodIn_app (goodIn_of _ (by decide +kernel)) ggX9_book_X9_isMould
set_option maxRecDepth 20000 in
theorem ggX9_book_X9_asNumber : GoodIn wsX9_book wsX9_asNumber := goodIn_r _ [16] (by decide +kernel) (by decide +kernel)
set_option maxRecDepth 20000 in
theorem gX9_book_X9_asNumber : GoodIn wsX9_book (va_wsS RX9 158 yX9_asNumber wsX9_asNumber) := goodIn_app (goodIn_of _ (by decide +kernel)) ggX9_book_X9_asNumber
set_option maxRecDepth 20000 in
theorem ggX9_book_X5_sectionOf : GoodIn wsX9_book wsX5_sectionOf := goodIn_r _ [21, 22, 38, 39, 40, 41, 42, 43] (by decide +kernel) (by decide +kernel)
set_option maxRecDepth 20000 in
theorem gX9_book_X5_sectionOf : GoodIn wsX9_book (wsV RX9 225 RX5 yX5_sectionOf wsX5_sectionOf) := goodIn_app (goodIn_of _ (by decide +kernel)) ggX9_book_X5_sectionOf
theorem dX9_book_0 : decode cX9_book 0 = .ok (.iload_n 1, 1) := by decide +kernel
theorem dX9_book_1 : decode cX9_book 1 = .ok (.invokestatic 222, 3) := by decide +kernel
theorem dX9_book_4 : decode cX9_book 4 = .ok (.ifCond .ne 5, 3) := by decide +kernel
theorem dX9_book_7 : decode cX9_book 7 = .ok (.iconst (-1), 1) := by decide +kernel
theorem dX9_book_8 : decode cX9_book 8 = .ok (.ireturn, 1) := by decide +kernel
theorem dX9_book_9 : decode cX9_book 9 = .ok (.iload_n 2, 1) := by decide +kernel
theorem dX9_book_10 : decode cX9_book 10 = .ok (.tableswitch 100 0 5 #[38, 48, 58, 71, 81, 91], 38) := by decide +kernel
theorem dX9_book_48 : decode cX9_book 48 = .ok (.aload_n 0, 1) := by decide +kernel
theorem dX9_book_49 : decode cX9_book 49 = .ok (.getfield 33, 3) := by decide +kernel
theorem dX9_book_52 : decode cX9_book 52 = .ok (.getfield 234, 3) := by decide +kernel
theorem dX9_book_55 : decode cX9_book 55 = .ok (.iload_n 1, 1) := by decide +kernel
theorem dX9_book_56 : decode cX9_book 56 = .ok (.iaload, 1) := by decide +kernel
theorem dX9_book_57 : decode cX9_book 57 = .ok (.ireturn, 1) := by decide +kernel
theorem dX9_book_58 : decode cX9_book 58 = .ok (.aload_n 0, 1) := by decide +kernel
theorem dX9_book_59 : decode cX9_book 59 = .ok (.getfield 33, 3) := by decide +kernel
theorem dX9_book_62 : decode cX9_book 62 = .ok (.getfield 231, 3) := by decide +kernel
theorem dX9_book_65 : decode cX9_book 65 = .ok (.iload_n 1, 1) := by decide +kernel
theorem dX9_book_66 : decode cX9_book 66 = .ok (.iaload, 1) := by decide +kernel
theorem dX9_book_67 : decode cX9_book 67 = .ok (.ireturn, 1) := by decide +kernel
theorem dX9_book_68 : decode cX9_book 68 = .ok (.aload_n 0, 1) := by decide +kernel
theorem dX9_book_69 : decode cX9_book 69 = .ok (.getfield 33, 3) := by decide +kernel
theorem dX9_book_72 : decode cX9_book 72 = .ok (.getfield 240, 3) := by decide +kernel
theorem dX9_book_75 : decode cX9_book 75 = .ok (.iload_n 1, 1) := by decide +kernel
theorem dX9_book_76 : decode cX9_book 76 = .ok (.baload, 1) := by decide +kernel
theorem dX9_book_77 : decode cX9_book 77 = .ok (.invokestatic 158, 3) := by decide +kernel
theorem dX9_book_80 : decode cX9_book 80 = .ok (.ireturn, 1) := by decide +kernel
theorem dX9_book_81 : decode cX9_book 81 = .ok (.aload_n 0, 1) := by decide +kernel
theorem dX9_book_82 : decode cX9_book 82 = .ok (.getfield 33, 3) := by decide +kernel
theorem dX9_book_85 : decode cX9_book 85 = .ok (.getfield 244, 3) := by decide +kernel
theorem dX9_book_88 : decode cX9_book 88 = .ok (.iload_n 1, 1) := by decide +kernel
theorem dX9_book_89 : decode cX9_book 89 = .ok (.iaload, 1) := by decide +kernel
theorem dX9_book_90 : decode cX9_book 90 = .ok (.ireturn, 1) := by decide +kernel
theorem dX9_book_91 : decode cX9_book 91 = .ok (.aload_n 0, 1) := by decide +kernel
theorem dX9_book_92 : decode cX9_book 92 = .ok (.getfield 33, 3) := by decide +kernel
theorem dX9_book_95 : decode cX9_book 95 = .ok (.getfield 247, 3) := by decide +kernel
theorem dX9_book_98 : decode cX9_book 98 = .ok (.iload_n 1, 1) := by decide +kernel
theorem dX9_book_99 : decode cX9_book 99 = .ok (.iaload, 1) := by decide +kernel
theorem dX9_book_100 : decode cX9_book 100 = .ok (.ireturn, 1) := by decide +kernel
theorem dX9_book_101 : decode cX9_book 101 = .ok (.aload_n 0, 1) := by decide +kernel
theorem dX9_book_102 : decode cX9_book 102 = .ok (.getfield 33, 3) := by decide +kernel
theorem dX9_book_105 : decode cX9_book 105 = .ok (.iload_n 1, 1) := by decide +kernel
theorem dX9_book_106 : decode cX9_book 106 = .ok (.invokevirtual 225, 3) := by decide +kernel
theorem dX9_book_109 : decode cX9_book 109 = .ok (.ireturn, 1) := by decide +kernel
theorem dX9_book_110 : decode cX9_book 110 = .ok (.iconst (-1), 1) := by decide +kernel
theorem dX9_book_111 : decode cX9_book 111 = .ok (.ireturn, 1) := by decide +kernel
set_option maxRecDepth 20000 in
theorem ggX9_cut_X9_isBetween : GoodIn wsX9_cut wsX9_isBetween := goodIn_r _ [8] (by decide +kernel) (by decide +kernel)
set_option maxRecDepth 20000 in
theorem gX9_cut_X9_isBetween : GoodIn wsX9_cut (va_wsS RX9 98 yX9_isBetween wsX9_isBetween) := goodIn_app (goodIn_of _ (by decide +kernel)) ggX9_cut_X9_isBetween
set_option maxRecDepth 20000 in
theorem ggX9_cut_X9_takeOffEldest : GoodIn wsX9_cut wsX9_takeOffEldest := goodIn_r _ [12, 3, 13, 14, 15, 16, 17, 18, 19, 20, 21, 22, 23, 24, 25, 26, 27, 28, 29, 30, 31, 32, 33, 34, 35, 36, 37, 7, 38, 39, 40, 41, 42, 43, 44, 45, 46, 47, 48, 49, 50, 92, 93, 94, 95, 96, 97, 98, 99, 100, 101, 102, 103, 104, 105, 106, 113, 114, 115, 116, 117, 118, 119, 110, 111, 112, 120, 121, 122, 123, 124, 125] (by decide +kernel) (by decide +kernel)
set_option maxRecDepth 20000 in
theorem gX9_cut_X9_takeOffEldest : GoodIn wsX9_cut (wsV RX9 251 RX9 yX9_takeOffEldest wsX9_takeOffEldest) := goodIn_app (goodIn_of _ (by decide +kernel)) ggX9_cut_X9_takeOffEldest
set_option maxRecDepth 20000 in
theorem ggX9_cut_X9_makeBottle : GoodIn wsX9_cut wsX9_makeBottle := goodIn_r _ [54, 1, 14, 55, 56, 57, 58, 3, 59, 16, 60, 15, 61, 62, 18, 17, 63, 19, 39, 64, 65, 66, 67, 68, 69, 70, 71, 72, 73, 74, 75, 76, 77, 78, 79, 30, 80, 34, 81, 82, 83, 84, 32, 33, 85, 86, 87, 7, 88, 89, 90, 91, 92, 93, 94, 95, 96, 97, 98, 99, 100, 101, 102, 103, 104, 105, 106, 120, 121, 122, 123, 124, 125, 113, 114, 115, 116, 117, 118, 119, 107, 108, 109, 110, 111, 112] (by decide +kernel) (by decide +kernel)
set_option maxRecDepth 20000 in
theorem gX9_cut_X9_makeBottle : GoodIn wsX9_cut (wsV RX9 254 RX9 yX9_makeBottle wsX9_makeBottle) := goodIn_app (goodIn_of _ (by decide +kernel)) ggX9_cut_X9_makeBottle
theorem dX9_cut_0 : decode cX9_cut 0 = .ok (.iload_n 1, 1) := by decide +kernel
theorem dX9_cut_1 : decode cX9_cut 1 = .ok (.iconst 1, 1) := by decide +kernel
theorem dX9_cut_2 : decode cX9_cut 2 = .ok (.bipush 100, 2) := by decide +kernel
theorem dX9_cut_4 : decode cX9_cut 4 = .ok (.invokestatic 98, 3) := by decide +kernel
theorem dX9_cut_7 : decode cX9_cut 7 = .ok (.ifCond .ne 5, 3) := by decide +kernel
theorem dX9_cut_10 : decode cX9_cut 10 = .ok (.iconst (-1), 1) := by decide +kernel
theorem dX9_cut_11 : decode cX9_cut 11 = .ok (.ireturn, 1) := by decide +kernel
theorem dX9_cut_12 : decode cX9_cut 12 = .ok (.aload_n 0, 1) := by decide +kernel
theorem dX9_cut_13 : decode cX9_cut 13 = .ok (.getfield 26, 3) := by decide +kernel
theorem dX9_cut_16 : decode cX9_cut 16 = .ok (.getfield 212, 3) := by decide +kernel
theorem dX9_cut_19 : decode cX9_cut 19 = .ok (.ifCond .ne 6, 3) := by decide +kernel
theorem dX9_cut_22 : decode cX9_cut 22 = .ok (.bipush (-4), 2) := by decide +kernel
theorem dX9_cut_24 : decode cX9_cut 24 = .ok (.ireturn, 1) := by decide +kernel
theorem dX9_cut_25 : decode cX9_cut 25 = .ok (.iconst 0, 1) := by decide +kernel
theorem dX9_cut_26 : decode cX9_cut 26 = .ok (.istore_n 2, 1) := by decide +kernel
theorem dX9_cut_27 : decode cX9_cut 27 = .ok (.iconst 0, 1) := by decide +kernel
theorem dX9_cut_28 : decode cX9_cut 28 = .ok (.istore_n 3, 1) := by decide +kernel
theorem dX9_cut_29 : decode cX9_cut 29 = .ok (.iload_n 3, 1) := by decide +kernel
theorem dX9_cut_30 : decode cX9_cut 30 = .ok (.iload_n 1, 1) := by decide +kernel
theorem dX9_cut_31 : decode cX9_cut 31 = .ok (.if_icmp .ge 32, 3) := by decide +kernel
theorem dX9_cut_34 : decode cX9_cut 34 = .ok (.aload_n 0, 1) := by decide +kernel
theorem dX9_cut_35 : decode cX9_cut 35 = .ok (.getfield 40, 3) := by decide +kernel
theorem dX9_cut_38 : decode cX9_cut 38 = .ok (.getfield 250, 3) := by decide +kernel
theorem dX9_cut_41 : decode cX9_cut 41 = .ok (.bipush 12, 2) := by decide +kernel
theorem dX9_cut_43 : decode cX9_cut 43 = .ok (.if_icmp .ne 10, 3) := by decide +kernel
theorem dX9_cut_46 : decode cX9_cut 46 = .ok (.aload_n 0, 1) := by decide +kernel
theorem dX9_cut_47 : decode cX9_cut 47 = .ok (.invokevirtual 251, 3) := by decide +kernel
theorem dX9_cut_50 : decode cX9_cut 50 = .ok (.iinc 2 1, 3) := by decide +kernel
theorem dX9_cut_53 : decode cX9_cut 53 = .ok (.aload_n 0, 1) := by decide +kernel
theorem dX9_cut_54 : decode cX9_cut 54 = .ok (.invokevirtual 254, 3) := by decide +kernel
theorem dX9_cut_57 : decode cX9_cut 57 = .ok (.iinc 3 1, 3) := by decide +kernel
theorem dX9_cut_60 : decode cX9_cut 60 = .ok (.goto (-31), 3) := by decide +kernel
theorem dX9_cut_63 : decode cX9_cut 63 = .ok (.iload_n 2, 1) := by decide +kernel
theorem dX9_cut_64 : decode cX9_cut 64 = .ok (.ireturn, 1) := by decide +kernel
set_option maxRecDepth 20000 in
theorem ggX9_drain_X9_takeOffEldest : GoodIn wsX9_drain wsX9_takeOffEldest := goodIn_r _ [7, 1, 8, 9, 10, 11, 12, 13, 14, 15, 16, 17, 18, 19, 20, 21, 22, 23, 24, 25, 26, 27, 28, 29, 30, 31, 32, 6, 33, 34, 35, 36, 37, 38, 39, 40, 41, 42, 43, 44, 45, 46, 47, 48, 49, 50, 51, 52, 53, 54, 55, 56, 57, 58, 59, 60, 64, 65, 66, 67, 68, 69, 70, 61, 62, 63, 71, 72, 73, 74, 75, 76] (by decide +kernel) (by decide +kernel)
set_option maxRecDepth 20000 in
theorem gX9_drain_X9_takeOffEldest : GoodIn wsX9_drain (wsV RX9 251 RX9 yX9_takeOffEldest wsX9_takeOffEldest) := goodIn_app (goodIn_of _ (by decide +kernel)) ggX9_drain_X9_takeOffEldest
theorem dX9_drain_0 : decode cX9_drain 0 = .ok (.aload_n 0, 1) := by decide +kernel
theorem dX9_drain_1 : decode cX9_drain 1 = .ok (.getfield 40, 3) := by decide +kernel
theorem dX9_drain_4 : decode cX9_drain 4 = .ok (.getfield 250, 3) := by decide +kernel
theorem dX9_drain_7 : decode cX9_drain 7 = .ok (.istore_n 1, 1) := by decide +kernel
theorem dX9_drain_8 : decode cX9_drain 8 = .ok (.iconst 0, 1) := by decide +kernel
theorem dX9_drain_9 : decode cX9_drain 9 = .ok (.istore_n 2, 1) := by decide +kernel
theorem dX9_drain_10 : decode cX9_drain 10 = .ok (.iload_n 2, 1) := by decide +kernel
theorem dX9_drain_11 : decode cX9_drain 11 = .ok (.iload_n 1, 1) := by decide +kernel
theorem dX9_drain_12 : decode cX9_drain 12 = .ok (.if_icmp .ge 13, 3) := by decide +kernel
theorem dX9_drain_15 : decode cX9_drain 15 = .ok (.aload_n 0, 1) := by decide +kernel
theorem dX9_drain_16 : decode cX9_drain 16 = .ok (.invokevirtual 251, 3) := by decide +kernel
theorem dX9_drain_19 : decode cX9_drain 19 = .ok (.iinc 2 1, 3) := by decide +kernel
theorem dX9_drain_22 : decode cX9_drain 22 = .ok (.goto (-12), 3) := by decide +kernel
theorem dX9_drain_25 : decode cX9_drain 25 = .ok (.iload_n 1, 1) := by decide +kernel
end
section
theorem dX9_drain_26 : decode cX9_drain 26 = .ok (.ireturn, 1) := by decide +kernel
set_option maxRecDepth 20000 in
theorem ggX9_bottle_X0_fromEldest : GoodIn wsX9_bottle wsX0_fromEldest := goodIn_r _ [12, 13, 14, 43, 44, 45] (by decide +kernel) (by decide +kernel)
set_option maxRecDepth 20000 in
theorem gX9_bottle_X0_fromEldest : GoodIn wsX9_bottle (wsV RX9 257 RX0 yX0_fromEldest wsX0_fromEldest) := goodIn_app (goodIn_of _ (by decide +kernel)) ggX9_bottle_X0_fromEldest
set_option maxRecDepth 20000 in
theorem ggX9_bottle_X9_verdict : GoodIn wsX9_bottle wsX9_verdict := goodIn_r _ [19, 20, 21, 22, 5, 7, 23, 24, 25, 26, 27, 46, 47, 48, 49, 50, 51, 52, 28, 29, 30, 31, 32, 33, 34, 35, 36, 37, 38, 39, 40, 41, 42, 53, 54, 55, 56, 57, 58] (by decide +kernel) (by decide +kernel)
set_option maxRecDepth 20000 in
theorem gX9_bottle_X9_verdict : GoodIn wsX9_bottle (wsV RX9 278 RX9 yX9_verdict wsX9_verdict) := goodIn_app (goodIn_of _ (by decide +kernel)) ggX9_bottle_X9_verdict
theorem dX9_bottle_0 : decode cX9_bottle 0 = .ok (.iload_n 1, 1) := by decide +kernel
theorem dX9_bottle_1 : decode cX9_bottle 1 = .ok (.ifCond .lt 14, 3) := by decide +kernel
theorem dX9_bottle_4 : decode cX9_bottle 4 = .ok (.iload_n 1, 1) := by decide +kernel
theorem dX9_bottle_5 : decode cX9_bottle 5 = .ok (.aload_n 0, 1) := by decide +kernel
theorem dX9_bottle_6 : decode cX9_bottle 6 = .ok (.getfield 40, 3) := by decide +kernel
theorem dX9_bottle_9 : decode cX9_bottle 9 = .ok (.getfield 250, 3) := by decide +kernel
theorem dX9_bottle_12 : decode cX9_bottle 12 = .ok (.if_icmp .lt 5, 3) := by decide +kernel
theorem dX9_bottle_15 : decode cX9_bottle 15 = .ok (.iconst (-1), 1) := by decide +kernel
theorem dX9_bottle_16 : decode cX9_bottle 16 = .ok (.ireturn, 1) := by decide +kernel
theorem dX9_bottle_17 : decode cX9_bottle 17 = .ok (.aload_n 0, 1) := by decide +kernel
theorem dX9_bottle_18 : decode cX9_bottle 18 = .ok (.getfield 40, 3) := by decide +kernel
theorem dX9_bottle_21 : decode cX9_bottle 21 = .ok (.iload_n 1, 1) := by decide +kernel
theorem dX9_bottle_22 : decode cX9_bottle 22 = .ok (.invokevirtual 257, 3) := by decide +kernel
theorem dX9_bottle_25 : decode cX9_bottle 25 = .ok (.astore_n 3, 1) := by decide +kernel
theorem dX9_bottle_26 : decode cX9_bottle 26 = .ok (.iload_n 2, 1) := by decide +kernel
theorem dX9_bottle_27 : decode cX9_bottle 27 = .ok (.tableswitch 68 0 5 #[37, 42, 47, 52, 57, 62], 37) := by decide +kernel
theorem dX9_bottle_64 : decode cX9_bottle 64 = .ok (.aload_n 3, 1) := by decide +kernel
theorem dX9_bottle_65 : decode cX9_bottle 65 = .ok (.getfield 261, 3) := by decide +kernel
theorem dX9_bottle_68 : decode cX9_bottle 68 = .ok (.ireturn, 1) := by decide +kernel
theorem dX9_bottle_69 : decode cX9_bottle 69 = .ok (.aload_n 3, 1) := by decide +kernel
theorem dX9_bottle_70 : decode cX9_bottle 70 = .ok (.getfield 266, 3) := by decide +kernel
theorem dX9_bottle_73 : decode cX9_bottle 73 = .ok (.ireturn, 1) := by decide +kernel
theorem dX9_bottle_74 : decode cX9_bottle 74 = .ok (.aload_n 3, 1) := by decide +kernel
theorem dX9_bottle_75 : decode cX9_bottle 75 = .ok (.getfield 269, 3) := by decide +kernel
theorem dX9_bottle_78 : decode cX9_bottle 78 = .ok (.ireturn, 1) := by decide +kernel
theorem dX9_bottle_79 : decode cX9_bottle 79 = .ok (.aload_n 3, 1) := by decide +kernel
theorem dX9_bottle_80 : decode cX9_bottle 80 = .ok (.getfield 272, 3) := by decide +kernel
theorem dX9_bottle_83 : decode cX9_bottle 83 = .ok (.ireturn, 1) := by decide +kernel
theorem dX9_bottle_84 : decode cX9_bottle 84 = .ok (.aload_n 3, 1) := by decide +kernel
theorem dX9_bottle_85 : decode cX9_bottle 85 = .ok (.getfield 275, 3) := by decide +kernel
theorem dX9_bottle_88 : decode cX9_bottle 88 = .ok (.ireturn, 1) := by decide +kernel
theorem dX9_bottle_89 : decode cX9_bottle 89 = .ok (.aload_n 0, 1) := by decide +kernel
theorem dX9_bottle_90 : decode cX9_bottle 90 = .ok (.aload_n 3, 1) := by decide +kernel
theorem dX9_bottle_91 : decode cX9_bottle 91 = .ok (.invokevirtual 278, 3) := by decide +kernel
theorem dX9_bottle_94 : decode cX9_bottle 94 = .ok (.ireturn, 1) := by decide +kernel
theorem dX9_bottle_95 : decode cX9_bottle 95 = .ok (.iconst (-1), 1) := by decide +kernel
theorem dX9_bottle_96 : decode cX9_bottle 96 = .ok (.ireturn, 1) := by decide +kernel
set_option maxRecDepth 20000 in
theorem ggX9_many_X9_isBetween : GoodIn wsX9_many wsX9_isBetween := goodIn_r _ [16] (by decide +kernel) (by decide +kernel)
set_option maxRecDepth 20000 in
theorem gX9_many_X9_isBetween : GoodIn wsX9_many (va_wsS RX9 98 yX9_isBetween wsX9_isBetween) := goodIn_app (goodIn_of _ (by decide +kernel)) ggX9_many_X9_isBetween
set_option maxRecDepth 20000 in
theorem ggX9_many_X6_next : GoodIn wsX9_many wsX6_next := goodIn_r _ [21, 22, 23, 24, 43, 44, 45] (by decide +kernel) (by decide +kernel)
set_option maxRecDepth 20000 in
theorem gX9_many_X6_next : GoodIn wsX9_many (wsV RX9 282 RX6 yX6_next wsX6_next) := goodIn_app (goodIn_of _ (by decide +kernel)) ggX9_many_X6_next
theorem dX9_many_0 : decode cX9_many 0 = .ok (.iload_n 1, 1) := by decide +kernel
theorem dX9_many_1 : decode cX9_many 1 = .ok (.iconst 2, 1) := by decide +kernel
theorem dX9_many_2 : decode cX9_many 2 = .ok (.bipush 8, 2) := by decide +kernel
theorem dX9_many_4 : decode cX9_many 4 = .ok (.invokestatic 98, 3) := by decide +kernel
theorem dX9_many_7 : decode cX9_many 7 = .ok (.ifCond .eq 12, 3) := by decide +kernel
theorem dX9_many_10 : decode cX9_many 10 = .ok (.aload_n 0, 1) := by decide +kernel
theorem dX9_many_11 : decode cX9_many 11 = .ok (.getfield 54, 3) := by decide +kernel
theorem dX9_many_14 : decode cX9_many 14 = .ok (.iload_n 1, 1) := by decide +kernel
theorem dX9_many_15 : decode cX9_many 15 = .ok (.iconst 2, 1) := by decide +kernel
theorem dX9_many_16 : decode cX9_many 16 = .ok (.isub, 1) := by decide +kernel
theorem dX9_many_17 : decode cX9_many 17 = .ok (.iaload, 1) := by decide +kernel
theorem dX9_many_18 : decode cX9_many 18 = .ok (.ireturn, 1) := by decide +kernel
theorem dX9_many_19 : decode cX9_many 19 = .ok (.iload_n 1, 1) := by decide +kernel
theorem dX9_many_20 : decode cX9_many 20 = .ok (.tableswitch 140 0 15 #[80, 85, 140, 140, 140, 140, 140, 140, 140, 93, 101, 106, 114, 119, 127, 135], 80) := by decide +kernel
theorem dX9_many_100 : decode cX9_many 100 = .ok (.aload_n 0, 1) := by decide +kernel
theorem dX9_many_101 : decode cX9_many 101 = .ok (.getfield 73, 3) := by decide +kernel
theorem dX9_many_104 : decode cX9_many 104 = .ok (.ireturn, 1) := by decide +kernel
theorem dX9_many_105 : decode cX9_many 105 = .ok (.aload_n 0, 1) := by decide +kernel
theorem dX9_many_106 : decode cX9_many 106 = .ok (.getfield 40, 3) := by decide +kernel
theorem dX9_many_109 : decode cX9_many 109 = .ok (.getfield 250, 3) := by decide +kernel
theorem dX9_many_112 : decode cX9_many 112 = .ok (.ireturn, 1) := by decide +kernel
theorem dX9_many_113 : decode cX9_many 113 = .ok (.aload_n 0, 1) := by decide +kernel
theorem dX9_many_114 : decode cX9_many 114 = .ok (.getfield 26, 3) := by decide +kernel
theorem dX9_many_117 : decode cX9_many 117 = .ok (.getfield 212, 3) := by decide +kernel
theorem dX9_many_120 : decode cX9_many 120 = .ok (.ireturn, 1) := by decide +kernel
theorem dX9_many_121 : decode cX9_many 121 = .ok (.aload_n 0, 1) := by decide +kernel
theorem dX9_many_122 : decode cX9_many 122 = .ok (.getfield 64, 3) := by decide +kernel
theorem dX9_many_125 : decode cX9_many 125 = .ok (.ireturn, 1) := by decide +kernel
theorem dX9_many_126 : decode cX9_many 126 = .ok (.aload_n 0, 1) := by decide +kernel
theorem dX9_many_127 : decode cX9_many 127 = .ok (.getfield 26, 3) := by decide +kernel
theorem dX9_many_130 : decode cX9_many 130 = .ok (.invokevirtual 282, 3) := by decide +kernel
theorem dX9_many_133 : decode cX9_many 133 = .ok (.ireturn, 1) := by decide +kernel
theorem dX9_many_134 : decode cX9_many 134 = .ok (.aload_n 0, 1) := by decide +kernel
theorem dX9_many_135 : decode cX9_many 135 = .ok (.getfield 61, 3) := by decide +kernel
theorem dX9_many_138 : decode cX9_many 138 = .ok (.ireturn, 1) := by decide +kernel
theorem dX9_many_139 : decode cX9_many 139 = .ok (.aload_n 0, 1) := by decide +kernel
theorem dX9_many_140 : decode cX9_many 140 = .ok (.getfield 10, 3) := by decide +kernel
theorem dX9_many_143 : decode cX9_many 143 = .ok (.getfield 113, 3) := by decide +kernel
theorem dX9_many_146 : decode cX9_many 146 = .ok (.ireturn, 1) := by decide +kernel
theorem dX9_many_147 : decode cX9_many 147 = .ok (.aload_n 0, 1) := by decide +kernel
theorem dX9_many_148 : decode cX9_many 148 = .ok (.getfield 10, 3) := by decide +kernel
theorem dX9_many_151 : decode cX9_many 151 = .ok (.getfield 125, 3) := by decide +kernel
theorem dX9_many_154 : decode cX9_many 154 = .ok (.ireturn, 1) := by decide +kernel
theorem dX9_many_155 : decode cX9_many 155 = .ok (.aload_n 0, 1) := by decide +kernel
theorem dX9_many_156 : decode cX9_many 156 = .ok (.getfield 57, 3) := by decide +kernel
theorem dX9_many_159 : decode cX9_many 159 = .ok (.ireturn, 1) := by decide +kernel
theorem dX9_many_160 : decode cX9_many 160 = .ok (.iconst (-1), 1) := by decide +kernel
theorem dX9_many_161 : decode cX9_many 161 = .ok (.ireturn, 1) := by decide +kernel
set_option maxRecDepth 20000 in
theorem ggX9_makeBottle_X6_next : GoodIn wsX9_makeBottle wsX6_next := goodIn_r _ [24, 25, 26, 27, 80, 81, 82] (by decide +kernel) (by decide +kernel)
set_option maxRecDepth 20000 in
theorem gX9_makeBottle_X6_next : GoodIn wsX9_makeBottle (wsV RX9 282 RX6 yX6_next wsX6_next) := goodIn_app (goodIn_of _ (by decide +kernel)) ggX9_makeBottle_X6_next
set_option maxRecDepth 20000 in
theorem ggX9_makeBottle_X6_pass : GoodIn wsX9_makeBottle wsX6_pass := goodIn_r _ [31, 27, 25, 80, 81, 82] (by decide +kernel) (by decide +kernel)
set_option maxRecDepth 20000 in
theorem gX9_makeBottle_X6_pass : GoodIn wsX9_makeBottle (wsV RX9 285 RX6 yX6_pass wsX6_pass) := goodIn_app (goodIn_of _ (by decide +kernel)) ggX9_makeBottle_X6_pass
set_option maxRecDepth 20000 in
theorem ggX9_makeBottle_X0_putLast : GoodIn wsX9_makeBottle wsX0_putLast := goodIn_r _ [36, 37, 38, 39, 40, 35, 41, 42, 43, 83, 84, 85] (by decide +kernel) (by decide +kernel)
set_option maxRecDepth 20000 in
theorem gX9_makeBottle_X0_putLast : GoodIn wsX9_makeBottle (wsV RX9 288 RX0 yX0_putLast wsX0_putLast) := goodIn_app (goodIn_of _ (by decide +kernel)) ggX9_makeBottle_X0_putLast
set_option maxRecDepth 20000 in
theorem ggX9_makeBottle_X9_faultOfCut : GoodIn wsX9_makeBottle wsX9_faultOfCut := goodIn_r _ [48, 19, 49, 50, 2, 6, 5, 51, 52, 53, 54, 55, 56, 57, 58, 59, 60, 61, 62, 63, 64, 65, 66, 67, 68, 69, 70, 71, 72] (by decide +kernel) (by decide +kernel)
set_option maxRecDepth 20000 in
theorem gX9_makeBottle_X9_faultOfCut : GoodIn wsX9_makeBottle (wsV RX9 295 RX9 yX9_faultOfCut wsX9_faultOfCut) := goodIn_app (goodIn_of _ (by decide +kernel)) ggX9_makeBottle_X9_faultOfCut
theorem dX9_makeBottle_0 : decode cX9_makeBottle 0 = .ok (.aload_n 0, 1) := by decide +kernel
theorem dX9_makeBottle_1 : decode cX9_makeBottle 1 = .ok (.getfield 26, 3) := by decide +kernel
theorem dX9_makeBottle_4 : decode cX9_makeBottle 4 = .ok (.invokevirtual 282, 3) := by decide +kernel
theorem dX9_makeBottle_7 : decode cX9_makeBottle 7 = .ok (.istore_n 1, 1) := by decide +kernel
theorem dX9_makeBottle_8 : decode cX9_makeBottle 8 = .ok (.aload_n 0, 1) := by decide +kernel
theorem dX9_makeBottle_9 : decode cX9_makeBottle 9 = .ok (.getfield 26, 3) := by decide +kernel
theorem dX9_makeBottle_12 : decode cX9_makeBottle 12 = .ok (.invokevirtual 285, 3) := by decide +kernel
theorem dX9_makeBottle_15 : decode cX9_makeBottle 15 = .ok (.aload_n 0, 1) := by decide +kernel
theorem dX9_makeBottle_16 : decode cX9_makeBottle 16 = .ok (.getfield 33, 3) := by decide +kernel
theorem dX9_makeBottle_19 : decode cX9_makeBottle 19 = .ok (.getfield 228, 3) := by decide +kernel
theorem dX9_makeBottle_22 : decode cX9_makeBottle 22 = .ok (.iload_n 1, 1) := by decide +kernel
theorem dX9_makeBottle_23 : decode cX9_makeBottle 23 = .ok (.iaload, 1) := by decide +kernel
theorem dX9_makeBottle_24 : decode cX9_makeBottle 24 = .ok (.istore_n 2, 1) := by decide +kernel
theorem dX9_makeBottle_25 : decode cX9_makeBottle 25 = .ok (.aload_n 0, 1) := by decide +kernel
theorem dX9_makeBottle_26 : decode cX9_makeBottle 26 = .ok (.getfield 44, 3) := by decide +kernel
theorem dX9_makeBottle_29 : decode cX9_makeBottle 29 = .ok (.iload_n 1, 1) := by decide +kernel
theorem dX9_makeBottle_30 : decode cX9_makeBottle 30 = .ok (.iaload, 1) := by decide +kernel
theorem dX9_makeBottle_31 : decode cX9_makeBottle 31 = .ok (.istore_n 3, 1) := by decide +kernel
theorem dX9_makeBottle_32 : decode cX9_makeBottle 32 = .ok (.aload_n 0, 1) := by decide +kernel
theorem dX9_makeBottle_33 : decode cX9_makeBottle 33 = .ok (.getfield 33, 3) := by decide +kernel
theorem dX9_makeBottle_36 : decode cX9_makeBottle 36 = .ok (.getfield 234, 3) := by decide +kernel
theorem dX9_makeBottle_39 : decode cX9_makeBottle 39 = .ok (.iload_n 2, 1) := by decide +kernel
theorem dX9_makeBottle_40 : decode cX9_makeBottle 40 = .ok (.dup2, 1) := by decide +kernel
theorem dX9_makeBottle_41 : decode cX9_makeBottle 41 = .ok (.iaload, 1) := by decide +kernel
theorem dX9_makeBottle_42 : decode cX9_makeBottle 42 = .ok (.iconst 1, 1) := by decide +kernel
theorem dX9_makeBottle_43 : decode cX9_makeBottle 43 = .ok (.iadd, 1) := by decide +kernel
theorem dX9_makeBottle_44 : decode cX9_makeBottle 44 = .ok (.iastore, 1) := by decide +kernel
theorem dX9_makeBottle_45 : decode cX9_makeBottle 45 = .ok (.aload_n 0, 1) := by decide +kernel
theorem dX9_makeBottle_46 : decode cX9_makeBottle 46 = .ok (.getfield 33, 3) := by decide +kernel
theorem dX9_makeBottle_49 : decode cX9_makeBottle 49 = .ok (.getfield 231, 3) := by decide +kernel
theorem dX9_makeBottle_52 : decode cX9_makeBottle 52 = .ok (.iload_n 2, 1) := by decide +kernel
theorem dX9_makeBottle_53 : decode cX9_makeBottle 53 = .ok (.dup2, 1) := by decide +kernel
theorem dX9_makeBottle_54 : decode cX9_makeBottle 54 = .ok (.iaload, 1) := by decide +kernel
theorem dX9_makeBottle_55 : decode cX9_makeBottle 55 = .ok (.iconst 1, 1) := by decide +kernel
theorem dX9_makeBottle_56 : decode cX9_makeBottle 56 = .ok (.iadd, 1) := by decide +kernel
theorem dX9_makeBottle_57 : decode cX9_makeBottle 57 = .ok (.iastore, 1) := by decide +kernel
theorem dX9_makeBottle_58 : decode cX9_makeBottle 58 = .ok (.aload_n 0, 1) := by decide +kernel
theorem dX9_makeBottle_59 : decode cX9_makeBottle 59 = .ok (.getfield 40, 3) := by decide +kernel
theorem dX9_makeBottle_62 : decode cX9_makeBottle 62 = .ok (.invokevirtual 288, 3) := by decide +kernel
theorem dX9_makeBottle_65 : decode cX9_makeBottle 65 = .ok (.astore 4, 2) := by decide +kernel
theorem dX9_makeBottle_67 : decode cX9_makeBottle 67 = .ok (.aload 4, 2) := by decide +kernel
theorem dX9_makeBottle_69 : decode cX9_makeBottle 69 = .ok (.aload_n 0, 1) := by decide +kernel
theorem dX9_makeBottle_70 : decode cX9_makeBottle 70 = .ok (.getfield 73, 3) := by decide +kernel
theorem dX9_makeBottle_73 : decode cX9_makeBottle 73 = .ok (.putfield 261, 3) := by decide +kernel
theorem dX9_makeBottle_76 : decode cX9_makeBottle 76 = .ok (.aload 4, 2) := by decide +kernel
theorem dX9_makeBottle_78 : decode cX9_makeBottle 78 = .ok (.iload_n 1, 1) := by decide +kernel
theorem dX9_makeBottle_79 : decode cX9_makeBottle 79 = .ok (.putfield 266, 3) := by decide +kernel
theorem dX9_makeBottle_82 : decode cX9_makeBottle 82 = .ok (.aload 4, 2) := by decide +kernel
theorem dX9_makeBottle_84 : decode cX9_makeBottle 84 = .ok (.iload_n 2, 1) := by decide +kernel
theorem dX9_makeBottle_85 : decode cX9_makeBottle 85 = .ok (.putfield 269, 3) := by decide +kernel
theorem dX9_makeBottle_88 : decode cX9_makeBottle 88 = .ok (.aload 4, 2) := by decide +kernel
theorem dX9_makeBottle_90 : decode cX9_makeBottle 90 = .ok (.iload_n 3, 1) := by decide +kernel
theorem dX9_makeBottle_91 : decode cX9_makeBottle 91 = .ok (.putfield 272, 3) := by decide +kernel
theorem dX9_makeBottle_94 : decode cX9_makeBottle 94 = .ok (.aload 4, 2) := by decide +kernel
theorem dX9_makeBottle_96 : decode cX9_makeBottle 96 = .ok (.aload_n 0, 1) := by decide +kernel
theorem dX9_makeBottle_97 : decode cX9_makeBottle 97 = .ok (.getfield 48, 3) := by decide +kernel
theorem dX9_makeBottle_100 : decode cX9_makeBottle 100 = .ok (.iload_n 3, 1) := by decide +kernel
theorem dX9_makeBottle_101 : decode cX9_makeBottle 101 = .ok (.iaload, 1) := by decide +kernel
theorem dX9_makeBottle_102 : decode cX9_makeBottle 102 = .ok (.putfield 292, 3) := by decide +kernel
theorem dX9_makeBottle_105 : decode cX9_makeBottle 105 = .ok (.aload 4, 2) := by decide +kernel
theorem dX9_makeBottle_107 : decode cX9_makeBottle 107 = .ok (.aload_n 0, 1) := by decide +kernel
theorem dX9_makeBottle_108 : decode cX9_makeBottle 108 = .ok (.getfield 64, 3) := by decide +kernel
theorem dX9_makeBottle_111 : decode cX9_makeBottle 111 = .ok (.aload_n 0, 1) := by decide +kernel
theorem dX9_makeBottle_112 : decode cX9_makeBottle 112 = .ok (.getfield 67, 3) := by decide +kernel
theorem dX9_makeBottle_115 : decode cX9_makeBottle 115 = .ok (.iadd, 1) := by decide +kernel
theorem dX9_makeBottle_116 : decode cX9_makeBottle 116 = .ok (.aload 4, 2) := by decide +kernel
theorem dX9_makeBottle_118 : decode cX9_makeBottle 118 = .ok (.getfield 292, 3) := by decide +kernel
theorem dX9_makeBottle_121 : decode cX9_makeBottle 121 = .ok (.iadd, 1) := by decide +kernel
theorem dX9_makeBottle_122 : decode cX9_makeBottle 122 = .ok (.sipush 500, 3) := by decide +kernel
theorem dX9_makeBottle_125 : decode cX9_makeBottle 125 = .ok (.isub, 1) := by decide +kernel
theorem dX9_makeBottle_126 : decode cX9_makeBottle 126 = .ok (.putfield 275, 3) := by decide +kernel
theorem dX9_makeBottle_129 : decode cX9_makeBottle 129 = .ok (.aload 4, 2) := by decide +kernel
theorem dX9_makeBottle_131 : decode cX9_makeBottle 131 = .ok (.aload_n 0, 1) := by decide +kernel
theorem dX9_makeBottle_132 : decode cX9_makeBottle 132 = .ok (.iload_n 3, 1) := by decide +kernel
theorem dX9_makeBottle_133 : decode cX9_makeBottle 133 = .ok (.iload_n 2, 1) := by decide +kernel
theorem dX9_makeBottle_134 : decode cX9_makeBottle 134 = .ok (.invokevirtual 295, 3) := by decide +kernel
theorem dX9_makeBottle_137 : decode cX9_makeBottle 137 = .ok (.putfield 298, 3) := by decide +kernel
theorem dX9_makeBottle_140 : decode cX9_makeBottle 140 = .ok (.aload_n 0, 1) := by decide +kernel
theorem dX9_makeBottle_141 : decode cX9_makeBottle 141 = .ok (.dup, 1) := by decide +kernel
theorem dX9_makeBottle_142 : decode cX9_makeBottle 142 = .ok (.getfield 73, 3) := by decide +kernel
theorem dX9_makeBottle_145 : decode cX9_makeBottle 145 = .ok (.iconst 1, 1) := by decide +kernel
theorem dX9_makeBottle_146 : decode cX9_makeBottle 146 = .ok (.iadd, 1) := by decide +kernel
theorem dX9_makeBottle_147 : decode cX9_makeBottle 147 = .ok (.putfield 73, 3) := by decide +kernel
theorem dX9_makeBottle_150 : decode cX9_makeBottle 150 = .ok (.aload_n 0, 1) := by decide +kernel
theorem dX9_makeBottle_151 : decode cX9_makeBottle 151 = .ok (.getfield 61, 3) := by decide +kernel
theorem dX9_makeBottle_154 : decode cX9_makeBottle 154 = .ok (.ifCond .le 13, 3) := by decide +kernel
theorem dX9_makeBottle_157 : decode cX9_makeBottle 157 = .ok (.aload_n 0, 1) := by decide +kernel
theorem dX9_makeBottle_158 : decode cX9_makeBottle 158 = .ok (.dup, 1) := by decide +kernel
theorem dX9_makeBottle_159 : decode cX9_makeBottle 159 = .ok (.getfield 61, 3) := by decide +kernel
theorem dX9_makeBottle_162 : decode cX9_makeBottle 162 = .ok (.iconst 1, 1) := by decide +kernel
theorem dX9_makeBottle_163 : decode cX9_makeBottle 163 = .ok (.isub, 1) := by decide +kernel
theorem dX9_makeBottle_164 : decode cX9_makeBottle 164 = .ok (.putfield 61, 3) := by decide +kernel
theorem dX9_makeBottle_167 : decode cX9_makeBottle 167 = .ok (.return_, 1) := by decide +kernel
theorem dX9_faultOfCut_0 : decode cX9_faultOfCut 0 = .ok (.aload_n 0, 1) := by decide +kernel
theorem dX9_faultOfCut_1 : decode cX9_faultOfCut 1 = .ok (.getfield 61, 3) := by decide +kernel
theorem dX9_faultOfCut_4 : decode cX9_faultOfCut 4 = .ok (.ifCond .le 5, 3) := by decide +kernel
theorem dX9_faultOfCut_7 : decode cX9_faultOfCut 7 = .ok (.iconst 1, 1) := by decide +kernel
theorem dX9_faultOfCut_8 : decode cX9_faultOfCut 8 = .ok (.ireturn, 1) := by decide +kernel
theorem dX9_faultOfCut_9 : decode cX9_faultOfCut 9 = .ok (.aload_n 0, 1) := by decide +kernel
theorem dX9_faultOfCut_10 : decode cX9_faultOfCut 10 = .ok (.getfield 51, 3) := by decide +kernel
theorem dX9_faultOfCut_13 : decode cX9_faultOfCut 13 = .ok (.iload_n 1, 1) := by decide +kernel
theorem dX9_faultOfCut_14 : decode cX9_faultOfCut 14 = .ok (.iaload, 1) := by decide +kernel
theorem dX9_faultOfCut_15 : decode cX9_faultOfCut 15 = .ok (.aload_n 0, 1) := by decide +kernel
theorem dX9_faultOfCut_16 : decode cX9_faultOfCut 16 = .ok (.getfield 57, 3) := by decide +kernel
theorem dX9_faultOfCut_19 : decode cX9_faultOfCut 19 = .ok (.if_icmp .eq 5, 3) := by decide +kernel
theorem dX9_faultOfCut_22 : decode cX9_faultOfCut 22 = .ok (.iconst 2, 1) := by decide +kernel
theorem dX9_faultOfCut_23 : decode cX9_faultOfCut 23 = .ok (.ireturn, 1) := by decide +kernel
theorem dX9_faultOfCut_24 : decode cX9_faultOfCut 24 = .ok (.aload_n 0, 1) := by decide +kernel
theorem dX9_faultOfCut_25 : decode cX9_faultOfCut 25 = .ok (.getfield 33, 3) := by decide +kernel
theorem dX9_faultOfCut_28 : decode cX9_faultOfCut 28 = .ok (.getfield 231, 3) := by decide +kernel
theorem dX9_faultOfCut_31 : decode cX9_faultOfCut 31 = .ok (.iload_n 2, 1) := by decide +kernel
theorem dX9_faultOfCut_32 : decode cX9_faultOfCut 32 = .ok (.iaload, 1) := by decide +kernel
theorem dX9_faultOfCut_33 : decode cX9_faultOfCut 33 = .ok (.bipush 8, 2) := by decide +kernel
theorem dX9_faultOfCut_35 : decode cX9_faultOfCut 35 = .ok (.if_icmp .le 5, 3) := by decide +kernel
theorem dX9_faultOfCut_38 : decode cX9_faultOfCut 38 = .ok (.iconst 3, 1) := by decide +kernel
theorem dX9_faultOfCut_39 : decode cX9_faultOfCut 39 = .ok (.ireturn, 1) := by decide +kernel
theorem dX9_faultOfCut_40 : decode cX9_faultOfCut 40 = .ok (.aload_n 0, 1) := by decide +kernel
theorem dX9_faultOfCut_41 : decode cX9_faultOfCut 41 = .ok (.getfield 33, 3) := by decide +kernel
theorem dX9_faultOfCut_44 : decode cX9_faultOfCut 44 = .ok (.getfield 234, 3) := by decide +kernel
theorem dX9_faultOfCut_47 : decode cX9_faultOfCut 47 = .ok (.iload_n 2, 1) := by decide +kernel
theorem dX9_faultOfCut_48 : decode cX9_faultOfCut 48 = .ok (.iaload, 1) := by decide +kernel
theorem dX9_faultOfCut_49 : decode cX9_faultOfCut 49 = .ok (.aload_n 0, 1) := by decide +kernel
theorem dX9_faultOfCut_50 : decode cX9_faultOfCut 50 = .ok (.getfield 70, 3) := by decide +kernel
theorem dX9_faultOfCut_53 : decode cX9_faultOfCut 53 = .ok (.if_icmp .le 7, 3) := by decide +kernel
theorem dX9_faultOfCut_56 : decode cX9_faultOfCut 56 = .ok (.iconst 4, 1) := by decide +kernel
theorem dX9_faultOfCut_57 : decode cX9_faultOfCut 57 = .ok (.goto 4, 3) := by decide +kernel
theorem dX9_faultOfCut_60 : decode cX9_faultOfCut 60 = .ok (.iconst 0, 1) := by decide +kernel
theorem dX9_faultOfCut_61 : decode cX9_faultOfCut 61 = .ok (.ireturn, 1) := by decide +kernel
theorem dX9_verdict_0 : decode cX9_verdict 0 = .ok (.aload_n 1, 1) := by decide +kernel
theorem dX9_verdict_1 : decode cX9_verdict 1 = .ok (.getfield 298, 3) := by decide +kernel
theorem dX9_verdict_4 : decode cX9_verdict 4 = .ok (.ifCond .eq 8, 3) := by decide +kernel
theorem dX9_verdict_7 : decode cX9_verdict 7 = .ok (.aload_n 1, 1) := by decide +kernel
theorem dX9_verdict_8 : decode cX9_verdict 8 = .ok (.getfield 298, 3) := by decide +kernel
theorem dX9_verdict_11 : decode cX9_verdict 11 = .ok (.ireturn, 1) := by decide +kernel
theorem dX9_verdict_12 : decode cX9_verdict 12 = .ok (.aload_n 0, 1) := by decide +kernel
theorem dX9_verdict_13 : decode cX9_verdict 13 = .ok (.getfield 33, 3) := by decide +kernel
theorem dX9_verdict_16 : decode cX9_verdict 16 = .ok (.getfield 240, 3) := by decide +kernel
theorem dX9_verdict_19 : decode cX9_verdict 19 = .ok (.aload_n 1, 1) := by decide +kernel
theorem dX9_verdict_20 : decode cX9_verdict 20 = .ok (.getfield 269, 3) := by decide +kernel
theorem dX9_verdict_23 : decode cX9_verdict 23 = .ok (.baload, 1) := by decide +kernel
theorem dX9_verdict_24 : decode cX9_verdict 24 = .ok (.ifCond .eq 5, 3) := by decide +kernel
theorem dX9_verdict_27 : decode cX9_verdict 27 = .ok (.iconst 5, 1) := by decide +kernel
theorem dX9_verdict_28 : decode cX9_verdict 28 = .ok (.ireturn, 1) := by decide +kernel
theorem dX9_verdict_29 : decode cX9_verdict 29 = .ok (.aload_n 1, 1) := by decide +kernel
theorem dX9_verdict_30 : decode cX9_verdict 30 = .ok (.getfield 275, 3) := by decide +kernel
theorem dX9_verdict_33 : decode cX9_verdict 33 = .ok (.aload_n 1, 1) := by decide +kernel
theorem dX9_verdict_34 : decode cX9_verdict 34 = .ok (.getfield 292, 3) := by decide +kernel
theorem dX9_verdict_37 : decode cX9_verdict 37 = .ok (.isub, 1) := by decide +kernel
theorem dX9_verdict_38 : decode cX9_verdict 38 = .ok (.invokestatic 301, 3) := by decide +kernel
theorem dX9_verdict_41 : decode cX9_verdict 41 = .ok (.bipush 20, 2) := by decide +kernel
theorem dX9_verdict_43 : decode cX9_verdict 43 = .ok (.if_icmp .le 8, 3) := by decide +kernel
theorem dX9_verdict_46 : decode cX9_verdict 46 = .ok (.bipush 6, 2) := by decide +kernel
theorem dX9_verdict_48 : decode cX9_verdict 48 = .ok (.goto 4, 3) := by decide +kernel
theorem dX9_verdict_51 : decode cX9_verdict 51 = .ok (.iconst 0, 1) := by decide +kernel
theorem dX9_verdict_52 : decode cX9_verdict 52 = .ok (.ireturn, 1) := by decide +kernel
set_option maxRecDepth 20000 in
theorem ggX9_takeOffEldest_X0_takeEldest : GoodIn wsX9_takeOffEldest wsX0_takeEldest := goodIn_r _ [20, 21, 22, 23, 63, 64, 65] (by decide +kernel) (by decide +kernel)
set_option maxRecDepth 20000 in
theorem gX9_takeOffEldest_X0_takeEldest : GoodIn wsX9_takeOffEldest (wsV RX9 306 RX0 yX0_takeEldest wsX0_takeEldest) := goodIn_app (goodIn_of _ (by decide +kernel)) ggX9_takeOffEldest_X0_takeEldest
set_option maxRecDepth 20000 in
theorem ggX9_takeOffEldest_X9_verdict : GoodIn wsX9_takeOffEldest wsX9_verdict := goodIn_r _ [28, 29, 3, 30, 4, 8, 7, 31, 32, 11, 33, 56, 57, 58, 59, 60, 61, 62, 41, 42, 43, 44, 45, 46, 47, 48, 49, 50, 51, 52, 53, 54, 55, 66, 67, 68, 69, 70, 71] (by decide +kernel) (by decide +kernel)
set_option maxRecDepth 20000 in
theorem gX9_takeOffEldest_X9_verdict : GoodIn wsX9_takeOffEldest (wsV RX9 278 RX9 yX9_verdict wsX9_verdict) := goodIn_app (goodIn_of _ (by decide +kernel)) ggX9_takeOffEldest_X9_verdict
set_option maxRecDepth 20000 in
theorem ggX9_takeOffEldest_X5_enter : GoodIn wsX9_takeOffEldest wsX5_enter := goodIn_r _ [38, 39, 40, 66, 67, 68, 69, 70, 71] (by decide +kernel) (by decide +kernel)
set_option maxRecDepth 20000 in
theorem gX9_takeOffEldest_X5_enter : GoodIn wsX9_takeOffEldest (wsV RX9 309 RX5 yX5_enter wsX5_enter) := goodIn_app (goodIn_of _ (by decide +kernel)) ggX9_takeOffEldest_X5_enter
theorem dX9_takeOffEldest_0 : decode cX9_takeOffEldest 0 = .ok (.aload_n 0, 1) := by decide +kernel
theorem dX9_takeOffEldest_1 : decode cX9_takeOffEldest 1 = .ok (.getfield 40, 3) := by decide +kernel
theorem dX9_takeOffEldest_4 : decode cX9_takeOffEldest 4 = .ok (.invokevirtual 306, 3) := by decide +kernel
theorem dX9_takeOffEldest_7 : decode cX9_takeOffEldest 7 = .ok (.astore_n 1, 1) := by decide +kernel
theorem dX9_takeOffEldest_8 : decode cX9_takeOffEldest 8 = .ok (.aload_n 0, 1) := by decide +kernel
theorem dX9_takeOffEldest_9 : decode cX9_takeOffEldest 9 = .ok (.aload_n 1, 1) := by decide +kernel
theorem dX9_takeOffEldest_10 : decode cX9_takeOffEldest 10 = .ok (.invokevirtual 278, 3) := by decide +kernel
theorem dX9_takeOffEldest_13 : decode cX9_takeOffEldest 13 = .ok (.istore_n 2, 1) := by decide +kernel
theorem dX9_takeOffEldest_14 : decode cX9_takeOffEldest 14 = .ok (.aload_n 0, 1) := by decide +kernel
theorem dX9_takeOffEldest_15 : decode cX9_takeOffEldest 15 = .ok (.getfield 54, 3) := by decide +kernel
theorem dX9_takeOffEldest_18 : decode cX9_takeOffEldest 18 = .ok (.iload_n 2, 1) := by decide +kernel
theorem dX9_takeOffEldest_19 : decode cX9_takeOffEldest 19 = .ok (.dup2, 1) := by decide +kernel
theorem dX9_takeOffEldest_20 : decode cX9_takeOffEldest 20 = .ok (.iaload, 1) := by decide +kernel
theorem dX9_takeOffEldest_21 : decode cX9_takeOffEldest 21 = .ok (.iconst 1, 1) := by decide +kernel
theorem dX9_takeOffEldest_22 : decode cX9_takeOffEldest 22 = .ok (.iadd, 1) := by decide +kernel
theorem dX9_takeOffEldest_23 : decode cX9_takeOffEldest 23 = .ok (.iastore, 1) := by decide +kernel
theorem dX9_takeOffEldest_24 : decode cX9_takeOffEldest 24 = .ok (.aload_n 0, 1) := by decide +kernel
theorem dX9_takeOffEldest_25 : decode cX9_takeOffEldest 25 = .ok (.getfield 33, 3) := by decide +kernel
theorem dX9_takeOffEldest_28 : decode cX9_takeOffEldest 28 = .ok (.aload_n 1, 1) := by decide +kernel
theorem dX9_takeOffEldest_29 : decode cX9_takeOffEldest 29 = .ok (.getfield 269, 3) := by decide +kernel
theorem dX9_takeOffEldest_32 : decode cX9_takeOffEldest 32 = .ok (.iload_n 2, 1) := by decide +kernel
theorem dX9_takeOffEldest_33 : decode cX9_takeOffEldest 33 = .ok (.ifCond .ne 7, 3) := by decide +kernel
theorem dX9_takeOffEldest_36 : decode cX9_takeOffEldest 36 = .ok (.iconst 1, 1) := by decide +kernel
theorem dX9_takeOffEldest_37 : decode cX9_takeOffEldest 37 = .ok (.goto 4, 3) := by decide +kernel
theorem dX9_takeOffEldest_40 : decode cX9_takeOffEldest 40 = .ok (.iconst 0, 1) := by decide +kernel
theorem dX9_takeOffEldest_41 : decode cX9_takeOffEldest 41 = .ok (.invokevirtual 309, 3) := by decide +kernel
theorem dX9_takeOffEldest_44 : decode cX9_takeOffEldest 44 = .ok (.aload_n 1, 1) := by decide +kernel
theorem dX9_takeOffEldest_45 : decode cX9_takeOffEldest 45 = .ok (.getfield 261, 3) := by decide +kernel
theorem dX9_takeOffEldest_48 : decode cX9_takeOffEldest 48 = .ok (.iconst 4, 1) := by decide +kernel
theorem dX9_takeOffEldest_49 : decode cX9_takeOffEldest 49 = .ok (.irem, 1) := by decide +kernel
theorem dX9_takeOffEldest_50 : decode cX9_takeOffEldest 50 = .ok (.ifCond .ne 36, 3) := by decide +kernel
theorem dX9_takeOffEldest_53 : decode cX9_takeOffEldest 53 = .ok (.aload_n 0, 1) := by decide +kernel
theorem dX9_takeOffEldest_54 : decode cX9_takeOffEldest 54 = .ok (.getfield 64, 3) := by decide +kernel
theorem dX9_takeOffEldest_57 : decode cX9_takeOffEldest 57 = .ok (.aload_n 1, 1) := by decide +kernel
theorem dX9_takeOffEldest_58 : decode cX9_takeOffEldest 58 = .ok (.getfield 292, 3) := by decide +kernel
theorem dX9_takeOffEldest_61 : decode cX9_takeOffEldest 61 = .ok (.aload_n 1, 1) := by decide +kernel
theorem dX9_takeOffEldest_62 : decode cX9_takeOffEldest 62 = .ok (.getfield 275, 3) := by decide +kernel
theorem dX9_takeOffEldest_65 : decode cX9_takeOffEldest 65 = .ok (.isub, 1) := by decide +kernel
theorem dX9_takeOffEldest_66 : decode cX9_takeOffEldest 66 = .ok (.iconst 2, 1) := by decide +kernel
theorem dX9_takeOffEldest_67 : decode cX9_takeOffEldest 67 = .ok (.idiv, 1) := by decide +kernel
theorem dX9_takeOffEldest_68 : decode cX9_takeOffEldest 68 = .ok (.iadd, 1) := by decide +kernel
theorem dX9_takeOffEldest_69 : decode cX9_takeOffEldest 69 = .ok (.istore_n 3, 1) := by decide +kernel
theorem dX9_takeOffEldest_70 : decode cX9_takeOffEldest 70 = .ok (.aload_n 0, 1) := by decide +kernel
theorem dX9_takeOffEldest_71 : decode cX9_takeOffEldest 71 = .ok (.bipush 100, 2) := by decide +kernel
theorem dX9_takeOffEldest_73 : decode cX9_takeOffEldest 73 = .ok (.sipush 900, 3) := by decide +kernel
theorem dX9_takeOffEldest_76 : decode cX9_takeOffEldest 76 = .ok (.iload_n 3, 1) := by decide +kernel
theorem dX9_takeOffEldest_77 : decode cX9_takeOffEldest 77 = .ok (.invokestatic 313, 3) := by decide +kernel
theorem dX9_takeOffEldest_80 : decode cX9_takeOffEldest 80 = .ok (.invokestatic 316, 3) := by decide +kernel
theorem dX9_takeOffEldest_83 : decode cX9_takeOffEldest 83 = .ok (.putfield 64, 3) := by decide +kernel
theorem dX9_takeOffEldest_86 : decode cX9_takeOffEldest 86 = .ok (.return_, 1) := by decide +kernel
set_option maxRecDepth 20000 in
theorem ggX9_isSetting_X9_isSection : GoodIn wsX9_isSetting wsX9_isSection := goodIn_r _ [4, 5, 6, 3, 7] (by decide +kernel) (by decide +kernel)
set_option maxRecDepth 20000 in
theorem gX9_isSetting_X9_isSection : GoodIn wsX9_isSetting (va_wsS RX9 94 yX9_isSection wsX9_isSection) := goodIn_app (goodIn_of _ (by decide +kernel)) ggX9_isSetting_X9_isSection
set_option maxRecDepth 20000 in
theorem ggX9_isSetting_X9_isAct : GoodIn wsX9_isSetting wsX9_isAct := goodIn_r _ [10, 5, 6, 3, 7] (by decide +kernel) (by decide +kernel)
set_option maxRecDepth 20000 in
theorem gX9_isSetting_X9_isAct : GoodIn wsX9_isSetting (va_wsS RX9 140 yX9_isAct wsX9_isAct) := goodIn_app (goodIn_of _ (by decide +kernel)) ggX9_isSetting_X9_isAct
set_option maxRecDepth 20000 in
theorem ggX9_isSetting_X9_isDegree : GoodIn wsX9_isSetting wsX9_isDegree := goodIn_r _ [13, 5, 6, 3, 7] (by decide +kernel) (by decide +kernel)
set_option maxRecDepth 20000 in
theorem gX9_isSetting_X9_isDegree : GoodIn wsX9_isSetting (va_wsS RX9 152 yX9_isDegree wsX9_isDegree) := goodIn_app (goodIn_of _ (by decide +kernel)) ggX9_isSetting_X9_isDegree
theorem dX9_isSetting_0 : decode cX9_isSetting 0 = .ok (.iload_n 0, 1) := by decide +kernel
theorem dX9_isSetting_1 : decode cX9_isSetting 1 = .ok (.invokestatic 94, 3) := by decide +kernel
theorem dX9_isSetting_4 : decode cX9_isSetting 4 = .ok (.ifCond .eq 33, 3) := by decide +kernel
theorem dX9_isSetting_7 : decode cX9_isSetting 7 = .ok (.iload_n 1, 1) := by decide +kernel
theorem dX9_isSetting_8 : decode cX9_isSetting 8 = .ok (.invokestatic 140, 3) := by decide +kernel
theorem dX9_isSetting_11 : decode cX9_isSetting 11 = .ok (.ifCond .eq 26, 3) := by decide +kernel
theorem dX9_isSetting_14 : decode cX9_isSetting 14 = .ok (.iload_n 2, 1) := by decide +kernel
theorem dX9_isSetting_15 : decode cX9_isSetting 15 = .ok (.invokestatic 152, 3) := by decide +kernel
theorem dX9_isSetting_18 : decode cX9_isSetting 18 = .ok (.ifCond .eq 19, 3) := by decide +kernel
theorem dX9_isSetting_21 : decode cX9_isSetting 21 = .ok (.iload_n 3, 1) := by decide +kernel
theorem dX9_isSetting_22 : decode cX9_isSetting 22 = .ok (.invokestatic 152, 3) := by decide +kernel
theorem dX9_isSetting_25 : decode cX9_isSetting 25 = .ok (.ifCond .eq 12, 3) := by decide +kernel
theorem dX9_isSetting_28 : decode cX9_isSetting 28 = .ok (.iload_n 2, 1) := by decide +kernel
theorem dX9_isSetting_29 : decode cX9_isSetting 29 = .ok (.iload_n 3, 1) := by decide +kernel
theorem dX9_isSetting_30 : decode cX9_isSetting 30 = .ok (.if_icmp .eq 7, 3) := by decide +kernel
theorem dX9_isSetting_33 : decode cX9_isSetting 33 = .ok (.iconst 1, 1) := by decide +kernel
theorem dX9_isSetting_34 : decode cX9_isSetting 34 = .ok (.goto 4, 3) := by decide +kernel
theorem dX9_isSetting_37 : decode cX9_isSetting 37 = .ok (.iconst 0, 1) := by decide +kernel
theorem dX9_isSetting_38 : decode cX9_isSetting 38 = .ok (.ireturn, 1) := by decide +kernel
set_option maxRecDepth 20000 in
theorem ggX9_isLaw_X9_isBetween : GoodIn wsX9_isLaw wsX9_isBetween := goodIn_r _ [5] (by decide +kernel) (by decide +kernel)
set_option maxRecDepth 20000 in
theorem gX9_isLaw_X9_isBetween : GoodIn wsX9_isLaw (va_wsS RX9 98 yX9_isBetween wsX9_isBetween) := goodIn_app (goodIn_of _ (by decide +kernel)) ggX9_isLaw_X9_isBetween
set_option maxRecDepth 20000 in
theorem ggX9_isLaw_X9_isAct : GoodIn wsX9_isLaw wsX9_isAct := goodIn_r _ [8, 2, 3, 4, 5] (by decide +kernel) (by decide +kernel)
set_option maxRecDepth 20000 in
theorem gX9_isLaw_X9_isAct : GoodIn wsX9_isLaw (va_wsS RX9 140 yX9_isAct wsX9_isAct) := goodIn_app (goodIn_of _ (by decide +kernel)) ggX9_isLaw_X9_isAct
theorem dX9_isLaw_0 : decode cX9_isLaw 0 = .ok (.iload_n 0, 1) := by decide +kernel
theorem dX9_isLaw_1 : decode cX9_isLaw 1 = .ok (.iconst 0, 1) := by decide +kernel
theorem dX9_isLaw_2 : decode cX9_isLaw 2 = .ok (.iconst 3, 1) := by decide +kernel
theorem dX9_isLaw_3 : decode cX9_isLaw 3 = .ok (.invokestatic 98, 3) := by decide +kernel
theorem dX9_isLaw_6 : decode cX9_isLaw 6 = .ok (.ifCond .eq 17, 3) := by decide +kernel
theorem dX9_isLaw_9 : decode cX9_isLaw 9 = .ok (.iload_n 1, 1) := by decide +kernel
theorem dX9_isLaw_10 : decode cX9_isLaw 10 = .ok (.invokestatic 140, 3) := by decide +kernel
theorem dX9_isLaw_13 : decode cX9_isLaw 13 = .ok (.ifCond .eq 10, 3) := by decide +kernel
theorem dX9_isLaw_16 : decode cX9_isLaw 16 = .ok (.iload_n 2, 1) := by decide +kernel
theorem dX9_isLaw_17 : decode cX9_isLaw 17 = .ok (.invokestatic 140, 3) := by decide +kernel
theorem dX9_isLaw_20 : decode cX9_isLaw 20 = .ok (.ifCond .ne 5, 3) := by decide +kernel
theorem dX9_isLaw_23 : decode cX9_isLaw 23 = .ok (.iconst 0, 1) := by decide +kernel
theorem dX9_isLaw_24 : decode cX9_isLaw 24 = .ok (.ireturn, 1) := by decide +kernel
theorem dX9_isLaw_25 : decode cX9_isLaw 25 = .ok (.iload_n 1, 1) := by decide +kernel
theorem dX9_isLaw_26 : decode cX9_isLaw 26 = .ok (.iload_n 2, 1) := by decide +kernel
theorem dX9_isLaw_27 : decode cX9_isLaw 27 = .ok (.if_icmp .ne 10, 3) := by decide +kernel
theorem dX9_isLaw_30 : decode cX9_isLaw 30 = .ok (.iload_n 0, 1) := by decide +kernel
theorem dX9_isLaw_31 : decode cX9_isLaw 31 = .ok (.iconst 2, 1) := by decide +kernel
theorem dX9_isLaw_32 : decode cX9_isLaw 32 = .ok (.if_icmp .eq 5, 3) := by decide +kernel
theorem dX9_isLaw_35 : decode cX9_isLaw 35 = .ok (.iconst 0, 1) := by decide +kernel
theorem dX9_isLaw_36 : decode cX9_isLaw 36 = .ok (.ireturn, 1) := by decide +kernel
theorem dX9_isLaw_37 : decode cX9_isLaw 37 = .ok (.iload_n 3, 1) := by decide +kernel
theorem dX9_isLaw_38 : decode cX9_isLaw 38 = .ok (.iconst 0, 1) := by decide +kernel
theorem dX9_isLaw_39 : decode cX9_isLaw 39 = .ok (.iload_n 0, 1) := by decide +kernel
theorem dX9_isLaw_40 : decode cX9_isLaw 40 = .ok (.ifCond .ne 9, 3) := by decide +kernel
theorem dX9_isLaw_43 : decode cX9_isLaw 43 = .ok (.sipush 359, 3) := by decide +kernel
theorem dX9_isLaw_46 : decode cX9_isLaw 46 = .ok (.goto 6, 3) := by decide +kernel
theorem dX9_isLaw_49 : decode cX9_isLaw 49 = .ok (.ldc_w 319, 3) := by decide +kernel
theorem dX9_isLaw_52 : decode cX9_isLaw 52 = .ok (.invokestatic 98, 3) := by decide +kernel
theorem dX9_isLaw_55 : decode cX9_isLaw 55 = .ok (.ireturn, 1) := by decide +kernel
theorem dX9_isBetween_0 : decode cX9_isBetween 0 = .ok (.iload_n 0, 1) := by decide +kernel
theorem dX9_isBetween_1 : decode cX9_isBetween 1 = .ok (.iload_n 1, 1) := by decide +kernel
theorem dX9_isBetween_2 : decode cX9_isBetween 2 = .ok (.if_icmp .lt 12, 3) := by decide +kernel
theorem dX9_isBetween_5 : decode cX9_isBetween 5 = .ok (.iload_n 0, 1) := by decide +kernel
theorem dX9_isBetween_6 : decode cX9_isBetween 6 = .ok (.iload_n 2, 1) := by decide +kernel
theorem dX9_isBetween_7 : decode cX9_isBetween 7 = .ok (.if_icmp .gt 7, 3) := by decide +kernel
theorem dX9_isBetween_10 : decode cX9_isBetween 10 = .ok (.iconst 1, 1) := by decide +kernel
theorem dX9_isBetween_11 : decode cX9_isBetween 11 = .ok (.goto 4, 3) := by decide +kernel
theorem dX9_isBetween_14 : decode cX9_isBetween 14 = .ok (.iconst 0, 1) := by decide +kernel
theorem dX9_isBetween_15 : decode cX9_isBetween 15 = .ok (.ireturn, 1) := by decide +kernel
set_option maxRecDepth 20000 in
theorem ggX9_isDegree_X9_isBetween : GoodIn wsX9_isDegree wsX9_isBetween := goodIn_r _ [4] (by decide +kernel) (by decide +kernel)
set_option maxRecDepth 20000 in
theorem gX9_isDegree_X9_isBetween : GoodIn wsX9_isDegree (va_wsS RX9 98 yX9_isBetween wsX9_isBetween) := goodIn_app (goodIn_of _ (by decide +kernel)) ggX9_isDegree_X9_isBetween
theorem dX9_isDegree_0 : decode cX9_isDegree 0 = .ok (.iload_n 0, 1) := by decide +kernel
theorem dX9_isDegree_1 : decode cX9_isDegree 1 = .ok (.iconst 0, 1) := by decide +kernel
theorem dX9_isDegree_2 : decode cX9_isDegree 2 = .ok (.sipush 359, 3) := by decide +kernel
theorem dX9_isDegree_5 : decode cX9_isDegree 5 = .ok (.invokestatic 98, 3) := by decide +kernel
theorem dX9_isDegree_8 : decode cX9_isDegree 8 = .ok (.ireturn, 1) := by decide +kernel
set_option maxRecDepth 20000 in
theorem ggX9_isSection_X9_isBetween : GoodIn wsX9_isSection wsX9_isBetween := goodIn_r _ [4] (by decide +kernel) (by decide +kernel)
set_option maxRecDepth 20000 in
theorem gX9_isSection_X9_isBetween : GoodIn wsX9_isSection (va_wsS RX9 98 yX9_isBetween wsX9_isBetween) := goodIn_app (goodIn_of _ (by decide +kernel)) ggX9_isSection_X9_isBetween
theorem dX9_isSection_0 : decode cX9_isSection 0 = .ok (.iload_n 0, 1) := by decide +kernel
theorem dX9_isSection_1 : decode cX9_isSection 1 = .ok (.iconst 0, 1) := by decide +kernel
theorem dX9_isSection_2 : decode cX9_isSection 2 = .ok (.iconst 5, 1) := by decide +kernel
theorem dX9_isSection_3 : decode cX9_isSection 3 = .ok (.invokestatic 98, 3) := by decide +kernel
theorem dX9_isSection_6 : decode cX9_isSection 6 = .ok (.ireturn, 1) := by decide +kernel
set_option maxRecDepth 20000 in
theorem ggX9_isAct_X9_isBetween : GoodIn wsX9_isAct wsX9_isBetween := goodIn_r _ [4] (by decide +kernel) (by decide +kernel)
set_option maxRecDepth 20000 in
theorem gX9_isAct_X9_isBetween : GoodIn wsX9_isAct (va_wsS RX9 98 yX9_isBetween wsX9_isBetween) := goodIn_app (goodIn_of _ (by decide +kernel)) ggX9_isAct_X9_isBetween
theorem dX9_isAct_0 : decode cX9_isAct 0 = .ok (.iload_n 0, 1) := by decide +kernel
theorem dX9_isAct_1 : decode cX9_isAct 1 = .ok (.iconst 0, 1) := by decide +kernel
theorem dX9_isAct_2 : decode cX9_isAct 2 = .ok (.bipush 7, 2) := by decide +kernel
theorem dX9_isAct_4 : decode cX9_isAct 4 = .ok (.invokestatic 98, 3) := by decide +kernel
theorem dX9_isAct_7 : decode cX9_isAct 7 = .ok (.ireturn, 1) := by decide +kernel
set_option maxRecDepth 20000 in
theorem ggX9_isArm_X9_isBetween : GoodIn wsX9_isArm wsX9_isBetween := goodIn_r _ [4] (by decide +kernel) (by decide +kernel)
set_option maxRecDepth 20000 in
theorem gX9_isArm_X9_isBetween : GoodIn wsX9_isArm (va_wsS RX9 98 yX9_isBetween wsX9_isBetween) := goodIn_app (goodIn_of _ (by decide +kernel)) ggX9_isArm_X9_isBetween
theorem dX9_isArm_0 : decode cX9_isArm 0 = .ok (.iload_n 0, 1) := by decide +kernel
theorem dX9_isArm_1 : decode cX9_isArm 1 = .ok (.iconst 0, 1) := by decide +kernel
theorem dX9_isArm_2 : decode cX9_isArm 2 = .ok (.iconst 2, 1) := by decide +kernel
theorem dX9_isArm_3 : decode cX9_isArm 3 = .ok (.invokestatic 98, 3) := by decide +kernel
theorem dX9_isArm_6 : decode cX9_isArm 6 = .ok (.ireturn, 1) := by decide +kernel
set_option maxRecDepth 20000 in
theorem ggX9_isJob_X9_isBetween : GoodIn wsX9_isJob wsX9_isBetween := goodIn_r _ [4] (by decide +kernel) (by decide +kernel)
set_option maxRecDepth 20000 in
theorem gX9_isJob_X9_isBetween : GoodIn wsX9_isJob (va_wsS RX9 98 yX9_isBetween wsX9_isBetween) := goodIn_app (goodIn_of _ (by decide +kernel)) ggX9_isJob_X9_isBetween
theorem dX9_isJob_0 : decode cX9_isJob 0 = .ok (.iload_n 0, 1) := by decide +kernel
theorem dX9_isJob_1 : decode cX9_isJob 1 = .ok (.iconst 0, 1) := by decide +kernel
theorem dX9_isJob_2 : decode cX9_isJob 2 = .ok (.iconst 3, 1) := by decide +kernel
theorem dX9_isJob_3 : decode cX9_isJob 3 = .ok (.invokestatic 98, 3) := by decide +kernel
theorem dX9_isJob_6 : decode cX9_isJob 6 = .ok (.ireturn, 1) := by decide +kernel
set_option maxRecDepth 20000 in
theorem ggX9_isColour_X9_isBetween : GoodIn wsX9_isColour wsX9_isBetween := goodIn_r _ [4] (by decide +kernel) (by decide +kernel)
set_option maxRecDepth 20000 in
theorem gX9_isColour_X9_isBetween : GoodIn wsX9_isColour (va_wsS RX9 98 yX9_isBetween wsX9_isBetween) := goodIn_app (goodIn_of _ (by decide +kernel)) ggX9_isColour_X9_isBetween
theorem dX9_isColour_0 : decode cX9_isColour 0 = .ok (.iload_n 0, 1) := by decide +kernel
theorem dX9_isColour_1 : decode cX9_isColour 1 = .ok (.iconst 0, 1) := by decide +kernel
theorem dX9_isColour_2 : decode cX9_isColour 2 = .ok (.iconst 3, 1) := by decide +kernel
theorem dX9_isColour_3 : decode cX9_isColour 3 = .ok (.invokestatic 98, 3) := by decide +kernel
theorem dX9_isColour_6 : decode cX9_isColour 6 = .ok (.ireturn, 1) := by decide +kernel
set_option maxRecDepth 20000 in
theorem ggX9_isMould_X9_isBetween : GoodIn wsX9_isMould wsX9_isBetween := goodIn_r _ [4] (by decide +kernel) (by decide +kernel)
set_option maxRecDepth 20000 in
theorem gX9_isMould_X9_isBetween : GoodIn wsX9_isMould (va_wsS RX9 98 yX9_isBetween wsX9_isBetween) := goodIn_app (goodIn_of _ (by decide +kernel)) ggX9_isMould_X9_isBetween
theorem dX9_isMould_0 : decode cX9_isMould 0 = .ok (.iload_n 0, 1) := by decide +kernel
theorem dX9_isMould_1 : decode cX9_isMould 1 = .ok (.iconst 0, 1) := by decide +kernel
theorem dX9_isMould_2 : decode cX9_isMould 2 = .ok (.bipush 29, 2) := by decide +kernel
theorem dX9_isMould_4 : decode cX9_isMould 4 = .ok (.invokestatic 98, 3) := by decide +kernel
theorem dX9_isMould_7 : decode cX9_isMould 7 = .ok (.ireturn, 1) := by decide +kernel
theorem dX9_asNumber_0 : decode cX9_asNumber 0 = .ok (.iload_n 0, 1) := by decide +kernel
theorem dX9_asNumber_1 : decode cX9_asNumber 1 = .ok (.ifCond .eq 7, 3) := by decide +kernel
theorem dX9_asNumber_4 : decode cX9_asNumber 4 = .ok (.iconst 1, 1) := by decide +kernel
theorem dX9_asNumber_5 : decode cX9_asNumber 5 = .ok (.goto 4, 3) := by decide +kernel
theorem dX9_asNumber_8 : decode cX9_asNumber 8 = .ok (.iconst 0, 1) := by decide +kernel
theorem dX9_asNumber_9 : decode cX9_asNumber 9 = .ok (.ireturn, 1) := by decide +kernel
theorem dX9_wayUp_0 : decode cX9_wayUp 0 = .ok (.iload_n 1, 1) := by decide +kernel
theorem dX9_wayUp_1 : decode cX9_wayUp 1 = .ok (.iload_n 0, 1) := by decide +kernel
theorem dX9_wayUp_2 : decode cX9_wayUp 2 = .ok (.if_icmp .ge 13, 3) := by decide +kernel
theorem dX9_wayUp_5 : decode cX9_wayUp 5 = .ok (.iload_n 1, 1) := by decide +kernel
theorem dX9_wayUp_6 : decode cX9_wayUp 6 = .ok (.iload_n 0, 1) := by decide +kernel
theorem dX9_wayUp_7 : decode cX9_wayUp 7 = .ok (.isub, 1) := by decide +kernel
theorem dX9_wayUp_8 : decode cX9_wayUp 8 = .ok (.sipush 360, 3) := by decide +kernel
theorem dX9_wayUp_11 : decode cX9_wayUp 11 = .ok (.iadd, 1) := by decide +kernel
theorem dX9_wayUp_12 : decode cX9_wayUp 12 = .ok (.goto 6, 3) := by decide +kernel
theorem dX9_wayUp_15 : decode cX9_wayUp 15 = .ok (.iload_n 1, 1) := by decide +kernel
theorem dX9_wayUp_16 : decode cX9_wayUp 16 = .ok (.iload_n 0, 1) := by decide +kernel
theorem dX9_wayUp_17 : decode cX9_wayUp 17 = .ok (.isub, 1) := by decide +kernel
theorem dX9_wayUp_18 : decode cX9_wayUp 18 = .ok (.ireturn, 1) := by decide +kernel
theorem dX9_greatestDivisor_0 : decode cX9_greatestDivisor 0 = .ok (.iload_n 0, 1) := by decide +kernel
theorem dX9_greatestDivisor_1 : decode cX9_greatestDivisor 1 = .ok (.istore_n 2, 1) := by decide +kernel
theorem dX9_greatestDivisor_2 : decode cX9_greatestDivisor 2 = .ok (.iload_n 1, 1) := by decide +kernel
theorem dX9_greatestDivisor_3 : decode cX9_greatestDivisor 3 = .ok (.istore_n 3, 1) := by decide +kernel
theorem dX9_greatestDivisor_4 : decode cX9_greatestDivisor 4 = .ok (.iconst 0, 1) := by decide +kernel
theorem dX9_greatestDivisor_5 : decode cX9_greatestDivisor 5 = .ok (.istore 4, 2) := by decide +kernel
theorem dX9_greatestDivisor_7 : decode cX9_greatestDivisor 7 = .ok (.iload 4, 2) := by decide +kernel
theorem dX9_greatestDivisor_9 : decode cX9_greatestDivisor 9 = .ok (.bipush 64, 2) := by decide +kernel
theorem dX9_greatestDivisor_11 : decode cX9_greatestDivisor 11 = .ok (.if_icmp .ge 23, 3) := by decide +kernel
theorem dX9_greatestDivisor_14 : decode cX9_greatestDivisor 14 = .ok (.iload_n 3, 1) := by decide +kernel
theorem dX9_greatestDivisor_15 : decode cX9_greatestDivisor 15 = .ok (.ifCond .eq 19, 3) := by decide +kernel
theorem dX9_greatestDivisor_18 : decode cX9_greatestDivisor 18 = .ok (.iload_n 2, 1) := by decide +kernel
theorem dX9_greatestDivisor_19 : decode cX9_greatestDivisor 19 = .ok (.iload_n 3, 1) := by decide +kernel
theorem dX9_greatestDivisor_20 : decode cX9_greatestDivisor 20 = .ok (.irem, 1) := by decide +kernel
theorem dX9_greatestDivisor_21 : decode cX9_greatestDivisor 21 = .ok (.istore 5, 2) := by decide +kernel
theorem dX9_greatestDivisor_23 : decode cX9_greatestDivisor 23 = .ok (.iload_n 3, 1) := by decide +kernel
theorem dX9_greatestDivisor_24 : decode cX9_greatestDivisor 24 = .ok (.istore_n 2, 1) := by decide +kernel
theorem dX9_greatestDivisor_25 : decode cX9_greatestDivisor 25 = .ok (.iload 5, 2) := by decide +kernel
theorem dX9_greatestDivisor_27 : decode cX9_greatestDivisor 27 = .ok (.istore_n 3, 1) := by decide +kernel
theorem dX9_greatestDivisor_28 : decode cX9_greatestDivisor 28 = .ok (.iinc 4 1, 3) := by decide +kernel
theorem dX9_greatestDivisor_31 : decode cX9_greatestDivisor 31 = .ok (.goto (-24), 3) := by decide +kernel
theorem dX9_greatestDivisor_34 : decode cX9_greatestDivisor 34 = .ok (.iconst 1, 1) := by decide +kernel
theorem dX9_greatestDivisor_35 : decode cX9_greatestDivisor 35 = .ok (.iload_n 2, 1) := by decide +kernel
theorem dX9_greatestDivisor_36 : decode cX9_greatestDivisor 36 = .ok (.invokestatic 316, 3) := by decide +kernel
theorem dX9_greatestDivisor_39 : decode cX9_greatestDivisor 39 = .ok (.ireturn, 1) := by decide +kernel
theorem dX10_init_0 : decode cX10_init 0 = .ok (.aload_n 0, 1) := by decide +kernel
theorem dX10_init_1 : decode cX10_init 1 = .ok (.invokespecial 1, 3) := by decide +kernel
theorem dX10_init_4 : decode cX10_init 4 = .ok (.aload_n 0, 1) := by decide +kernel
theorem dX10_init_5 : decode cX10_init 5 = .ok (.bipush 48, 2) := by decide +kernel
theorem dX10_init_7 : decode cX10_init 7 = .ok (.newarray .int, 2) := by decide +kernel
theorem dX10_init_9 : decode cX10_init 9 = .ok (.putfield 7, 3) := by decide +kernel
theorem dX10_init_12 : decode cX10_init 12 = .ok (.aload_n 0, 1) := by decide +kernel
theorem dX10_init_13 : decode cX10_init 13 = .ok (.bipush 48, 2) := by decide +kernel
theorem dX10_init_15 : decode cX10_init 15 = .ok (.newarray .int, 2) := by decide +kernel
theorem dX10_init_17 : decode cX10_init 17 = .ok (.putfield 13, 3) := by decide +kernel
theorem dX10_init_20 : decode cX10_init 20 = .ok (.aload_n 0, 1) := by decide +kernel
theorem dX10_init_21 : decode cX10_init 21 = .ok (.bipush 17, 2) := by decide +kernel
theorem dX10_init_23 : decode cX10_init 23 = .ok (.newarray .int, 2) := by decide +kernel
theorem dX10_init_25 : decode cX10_init 25 = .ok (.putfield 16, 3) := by decide +kernel
theorem dX10_init_28 : decode cX10_init 28 = .ok (.aload_n 0, 1) := by decide +kernel
theorem dX10_init_29 : decode cX10_init 29 = .ok (.bipush 17, 2) := by decide +kernel
theorem dX10_init_31 : decode cX10_init 31 = .ok (.newarray .int, 2) := by decide +kernel
theorem dX10_init_33 : decode cX10_init 33 = .ok (.putfield 19, 3) := by decide +kernel
theorem dX10_init_36 : decode cX10_init 36 = .ok (.aload_n 0, 1) := by decide +kernel
theorem dX10_init_37 : decode cX10_init 37 = .ok (.bipush 17, 2) := by decide +kernel
theorem dX10_init_39 : decode cX10_init 39 = .ok (.newarray .int, 2) := by decide +kernel
theorem dX10_init_41 : decode cX10_init 41 = .ok (.putfield 22, 3) := by decide +kernel
theorem dX10_init_44 : decode cX10_init 44 = .ok (.aload_n 0, 1) := by decide +kernel
theorem dX10_init_45 : decode cX10_init 45 = .ok (.bipush 17, 2) := by decide +kernel
theorem dX10_init_47 : decode cX10_init 47 = .ok (.newarray .int, 2) := by decide +kernel
theorem dX10_init_49 : decode cX10_init 49 = .ok (.putfield 25, 3) := by decide +kernel
theorem dX10_init_52 : decode cX10_init 52 = .ok (.aload_n 0, 1) := by decide +kernel
theorem dX10_init_53 : decode cX10_init 53 = .ok (.bipush 10, 2) := by decide +kernel
theorem dX10_init_55 : decode cX10_init 55 = .ok (.putfield 28, 3) := by decide +kernel
theorem dX10_init_58 : decode cX10_init 58 = .ok (.aload_n 0, 1) := by decide +kernel
theorem dX10_init_59 : decode cX10_init 59 = .ok (.iconst 3, 1) := by decide +kernel
theorem dX10_init_60 : decode cX10_init 60 = .ok (.newarray .int, 2) := by decide +kernel
theorem dX10_init_62 : decode cX10_init 62 = .ok (.putfield 32, 3) := by decide +kernel
theorem dX10_init_65 : decode cX10_init 65 = .ok (.aload_n 0, 1) := by decide +kernel
theorem dX10_init_66 : decode cX10_init 66 = .ok (.bipush 18, 2) := by decide +kernel
theorem dX10_init_68 : decode cX10_init 68 = .ok (.newarray .int, 2) := by decide +kernel
theorem dX10_init_70 : decode cX10_init 70 = .ok (.putfield 35, 3) := by decide +kernel
theorem dX10_init_73 : decode cX10_init 73 = .ok (.aload_n 0, 1) := by decide +kernel
theorem dX10_init_74 : decode cX10_init 74 = .ok (.bipush 18, 2) := by decide +kernel
theorem dX10_init_76 : decode cX10_init 76 = .ok (.newarray .int, 2) := by decide +kernel
theorem dX10_init_78 : decode cX10_init 78 = .ok (.putfield 38, 3) := by decide +kernel
theorem dX10_init_81 : decode cX10_init 81 = .ok (.aload_n 0, 1) := by decide +kernel
theorem dX10_init_82 : decode cX10_init 82 = .ok (.bipush 6, 2) := by decide +kernel
theorem dX10_init_84 : decode cX10_init 84 = .ok (.newarray .int, 2) := by decide +kernel
theorem dX10_init_86 : decode cX10_init 86 = .ok (.putfield 41, 3) := by decide +kernel
theorem dX10_init_89 : decode cX10_init 89 = .ok (.aload_n 0, 1) := by decide +kernel
theorem dX10_init_90 : decode cX10_init 90 = .ok (.bipush 6, 2) := by decide +kernel
theorem dX10_init_92 : decode cX10_init 92 = .ok (.newarray .int, 2) := by decide +kernel
theorem dX10_init_94 : decode cX10_init 94 = .ok (.putfield 44, 3) := by decide +kernel
theorem dX10_init_97 : decode cX10_init 97 = .ok (.aload_n 0, 1) := by decide +kernel
theorem dX10_init_98 : decode cX10_init 98 = .ok (.bipush 6, 2) := by decide +kernel
theorem dX10_init_100 : decode cX10_init 100 = .ok (.putfield 47, 3) := by decide +kernel
theorem dX10_init_103 : decode cX10_init 103 = .ok (.aload_n 0, 1) := by decide +kernel
theorem dX10_init_104 : decode cX10_init 104 = .ok (.bipush 6, 2) := by decide +kernel
theorem dX10_init_106 : decode cX10_init 106 = .ok (.newarray .int, 2) := by decide +kernel
theorem dX10_init_108 : decode cX10_init 108 = .ok (.putfield 50, 3) := by decide +kernel
theorem dX10_init_111 : decode cX10_init 111 = .ok (.aload_n 0, 1) := by decide +kernel
theorem dX10_init_112 : decode cX10_init 112 = .ok (.bipush 6, 2) := by decide +kernel
theorem dX10_init_114 : decode cX10_init 114 = .ok (.newarray .int, 2) := by decide +kernel
theorem dX10_init_116 : decode cX10_init 116 = .ok (.putfield 53, 3) := by decide +kernel
theorem dX10_init_119 : decode cX10_init 119 = .ok (.aload_n 0, 1) := by decide +kernel
theorem dX10_init_120 : decode cX10_init 120 = .ok (.bipush 6, 2) := by decide +kernel
theorem dX10_init_122 : decode cX10_init 122 = .ok (.newarray .int, 2) := by decide +kernel
theorem dX10_init_124 : decode cX10_init 124 = .ok (.putfield 56, 3) := by decide +kernel
theorem dX10_init_127 : decode cX10_init 127 = .ok (.aload_n 0, 1) := by decide +kernel
theorem dX10_init_128 : decode cX10_init 128 = .ok (.iconst 4, 1) := by decide +kernel
theorem dX10_init_129 : decode cX10_init 129 = .ok (.newarray .int, 2) := by decide +kernel
theorem dX10_init_131 : decode cX10_init 131 = .ok (.putfield 59, 3) := by decide +kernel
theorem dX10_init_134 : decode cX10_init 134 = .ok (.aload_n 0, 1) := by decide +kernel
theorem dX10_init_135 : decode cX10_init 135 = .ok (.iconst 4, 1) := by decide +kernel
theorem dX10_init_136 : decode cX10_init 136 = .ok (.newarray .int, 2) := by decide +kernel
theorem dX10_init_138 : decode cX10_init 138 = .ok (.putfield 62, 3) := by decide +kernel
theorem dX10_init_141 : decode cX10_init 141 = .ok (.aload_n 0, 1) := by decide +kernel
theorem dX10_init_142 : decode cX10_init 142 = .ok (.bipush 30, 2) := by decide +kernel
theorem dX10_init_144 : decode cX10_init 144 = .ok (.newarray .int, 2) := by decide +kernel
theorem dX10_init_146 : decode cX10_init 146 = .ok (.putfield 65, 3) := by decide +kernel
theorem dX10_init_149 : decode cX10_init 149 = .ok (.aload_n 0, 1) := by decide +kernel
theorem dX10_init_150 : decode cX10_init 150 = .ok (.bipush 30, 2) := by decide +kernel
theorem dX10_init_152 : decode cX10_init 152 = .ok (.newarray .int, 2) := by decide +kernel
theorem dX10_init_154 : decode cX10_init 154 = .ok (.putfield 68, 3) := by decide +kernel
theorem dX10_init_157 : decode cX10_init 157 = .ok (.aload_n 0, 1) := by decide +kernel
theorem dX10_init_158 : decode cX10_init 158 = .ok (.bipush 30, 2) := by decide +kernel
theorem dX10_init_160 : decode cX10_init 160 = .ok (.newarray .boolean, 2) := by decide +kernel
theorem dX10_init_162 : decode cX10_init 162 = .ok (.putfield 71, 3) := by decide +kernel
theorem dX10_init_165 : decode cX10_init 165 = .ok (.aload_n 0, 1) := by decide +kernel
theorem dX10_init_166 : decode cX10_init 166 = .ok (.bipush 30, 2) := by decide +kernel
theorem dX10_init_168 : decode cX10_init 168 = .ok (.newarray .int, 2) := by decide +kernel
theorem dX10_init_170 : decode cX10_init 170 = .ok (.putfield 75, 3) := by decide +kernel
theorem dX10_init_173 : decode cX10_init 173 = .ok (.aload_n 0, 1) := by decide +kernel
theorem dX10_init_174 : decode cX10_init 174 = .ok (.bipush 30, 2) := by decide +kernel
theorem dX10_init_176 : decode cX10_init 176 = .ok (.newarray .int, 2) := by decide +kernel
theorem dX10_init_178 : decode cX10_init 178 = .ok (.putfield 78, 3) := by decide +kernel
theorem dX10_init_181 : decode cX10_init 181 = .ok (.aload_n 0, 1) := by decide +kernel
theorem dX10_init_182 : decode cX10_init 182 = .ok (.sipush 500, 3) := by decide +kernel
theorem dX10_init_185 : decode cX10_init 185 = .ok (.putfield 81, 3) := by decide +kernel
theorem dX10_init_188 : decode cX10_init 188 = .ok (.aload_n 0, 1) := by decide +kernel
theorem dX10_init_189 : decode cX10_init 189 = .ok (.sipush 200, 3) := by decide +kernel
theorem dX10_init_192 : decode cX10_init 192 = .ok (.putfield 84, 3) := by decide +kernel
theorem dX10_init_195 : decode cX10_init 195 = .ok (.aload_n 0, 1) := by decide +kernel
theorem dX10_init_196 : decode cX10_init 196 = .ok (.bipush 12, 2) := by decide +kernel
theorem dX10_init_198 : decode cX10_init 198 = .ok (.newarray .int, 2) := by decide +kernel
theorem dX10_init_200 : decode cX10_init 200 = .ok (.putfield 87, 3) := by decide +kernel
theorem dX10_init_203 : decode cX10_init 203 = .ok (.aload_n 0, 1) := by decide +kernel
theorem dX10_init_204 : decode cX10_init 204 = .ok (.bipush 12, 2) := by decide +kernel
theorem dX10_init_206 : decode cX10_init 206 = .ok (.newarray .int, 2) := by decide +kernel
theorem dX10_init_208 : decode cX10_init 208 = .ok (.putfield 90, 3) := by decide +kernel
theorem dX10_init_211 : decode cX10_init 211 = .ok (.aload_n 0, 1) := by decide +kernel
theorem dX10_init_212 : decode cX10_init 212 = .ok (.bipush 12, 2) := by decide +kernel
theorem dX10_init_214 : decode cX10_init 214 = .ok (.newarray .int, 2) := by decide +kernel
theorem dX10_init_216 : decode cX10_init 216 = .ok (.putfield 93, 3) := by decide +kernel
theorem dX10_init_219 : decode cX10_init 219 = .ok (.aload_n 0, 1) := by decide +kernel
theorem dX10_init_220 : decode cX10_init 220 = .ok (.bipush 12, 2) := by decide +kernel
theorem dX10_init_222 : decode cX10_init 222 = .ok (.newarray .int, 2) := by decide +kernel
theorem dX10_init_224 : decode cX10_init 224 = .ok (.putfield 96, 3) := by decide +kernel
theorem dX10_init_227 : decode cX10_init 227 = .ok (.aload_n 0, 1) := by decide +kernel
theorem dX10_init_228 : decode cX10_init 228 = .ok (.bipush 12, 2) := by decide +kernel
theorem dX10_init_230 : decode cX10_init 230 = .ok (.newarray .int, 2) := by decide +kernel
theorem dX10_init_232 : decode cX10_init 232 = .ok (.putfield 99, 3) := by decide +kernel
theorem dX10_init_235 : decode cX10_init 235 = .ok (.aload_n 0, 1) := by decide +kernel
theorem dX10_init_236 : decode cX10_init 236 = .ok (.bipush 12, 2) := by decide +kernel
theorem dX10_init_238 : decode cX10_init 238 = .ok (.newarray .int, 2) := by decide +kernel
theorem dX10_init_240 : decode cX10_init 240 = .ok (.putfield 102, 3) := by decide +kernel
theorem dX10_init_243 : decode cX10_init 243 = .ok (.aload_n 0, 1) := by decide +kernel
theorem dX10_init_244 : decode cX10_init 244 = .ok (.bipush 12, 2) := by decide +kernel
theorem dX10_init_246 : decode cX10_init 246 = .ok (.newarray .int, 2) := by decide +kernel
theorem dX10_init_248 : decode cX10_init 248 = .ok (.putfield 105, 3) := by decide +kernel
theorem dX10_init_251 : decode cX10_init 251 = .ok (.aload_n 0, 1) := by decide +kernel
theorem dX10_init_252 : decode cX10_init 252 = .ok (.bipush 7, 2) := by decide +kernel
theorem dX10_init_254 : decode cX10_init 254 = .ok (.newarray .int, 2) := by decide +kernel
theorem dX10_init_256 : decode cX10_init 256 = .ok (.putfield 108, 3) := by decide +kernel
theorem dX10_init_259 : decode cX10_init 259 = .ok (.aload_n 0, 1) := by decide +kernel
theorem dX10_init_260 : decode cX10_init 260 = .ok (.bipush 6, 2) := by decide +kernel
theorem dX10_init_262 : decode cX10_init 262 = .ok (.newarray .int, 2) := by decide +kernel
theorem dX10_init_264 : decode cX10_init 264 = .ok (.putfield 111, 3) := by decide +kernel
theorem dX10_init_267 : decode cX10_init 267 = .ok (.aload_n 0, 1) := by decide +kernel
theorem dX10_init_268 : decode cX10_init 268 = .ok (.bipush 6, 2) := by decide +kernel
theorem dX10_init_270 : decode cX10_init 270 = .ok (.newarray .int, 2) := by decide +kernel
theorem dX10_init_272 : decode cX10_init 272 = .ok (.putfield 114, 3) := by decide +kernel
theorem dX10_init_275 : decode cX10_init 275 = .ok (.iconst 0, 1) := by decide +kernel
theorem dX10_init_276 : decode cX10_init 276 = .ok (.istore_n 1, 1) := by decide +kernel
theorem dX10_init_277 : decode cX10_init 277 = .ok (.iload_n 1, 1) := by decide +kernel
theorem dX10_init_278 : decode cX10_init 278 = .ok (.bipush 6, 2) := by decide +kernel
theorem dX10_init_280 : decode cX10_init 280 = .ok (.if_icmp .ge 70, 3) := by decide +kernel
theorem dX10_init_283 : decode cX10_init 283 = .ok (.iconst 0, 1) := by decide +kernel
theorem dX10_init_284 : decode cX10_init 284 = .ok (.istore_n 2, 1) := by decide +kernel
theorem dX10_init_285 : decode cX10_init 285 = .ok (.iload_n 2, 1) := by decide +kernel
theorem dX10_init_286 : decode cX10_init 286 = .ok (.bipush 8, 2) := by decide +kernel
theorem dX10_init_288 : decode cX10_init 288 = .ok (.if_icmp .ge 42, 3) := by decide +kernel
theorem dX10_init_291 : decode cX10_init 291 = .ok (.aload_n 0, 1) := by decide +kernel
theorem dX10_init_292 : decode cX10_init 292 = .ok (.getfield 7, 3) := by decide +kernel
theorem dX10_init_295 : decode cX10_init 295 = .ok (.bipush 8, 2) := by decide +kernel
theorem dX10_init_297 : decode cX10_init 297 = .ok (.iload_n 1, 1) := by decide +kernel
theorem dX10_init_298 : decode cX10_init 298 = .ok (.imul, 1) := by decide +kernel
theorem dX10_init_299 : decode cX10_init 299 = .ok (.iload_n 2, 1) := by decide +kernel
theorem dX10_init_300 : decode cX10_init 300 = .ok (.iadd, 1) := by decide +kernel
theorem dX10_init_301 : decode cX10_init 301 = .ok (.bipush 40, 2) := by decide +kernel
theorem dX10_init_303 : decode cX10_init 303 = .ok (.iload_n 2, 1) := by decide +kernel
theorem dX10_init_304 : decode cX10_init 304 = .ok (.imul, 1) := by decide +kernel
theorem dX10_init_305 : decode cX10_init 305 = .ok (.iastore, 1) := by decide +kernel
theorem dX10_init_306 : decode cX10_init 306 = .ok (.aload_n 0, 1) := by decide +kernel
theorem dX10_init_307 : decode cX10_init 307 = .ok (.getfield 13, 3) := by decide +kernel
theorem dX10_init_310 : decode cX10_init 310 = .ok (.bipush 8, 2) := by decide +kernel
theorem dX10_init_312 : decode cX10_init 312 = .ok (.iload_n 1, 1) := by decide +kernel
theorem dX10_init_313 : decode cX10_init 313 = .ok (.imul, 1) := by decide +kernel
theorem dX10_init_314 : decode cX10_init 314 = .ok (.iload_n 2, 1) := by decide +kernel
theorem dX10_init_315 : decode cX10_init 315 = .ok (.iadd, 1) := by decide +kernel
theorem dX10_init_316 : decode cX10_init 316 = .ok (.bipush 40, 2) := by decide +kernel
theorem dX10_init_318 : decode cX10_init 318 = .ok (.iload_n 2, 1) := by decide +kernel
theorem dX10_init_319 : decode cX10_init 319 = .ok (.imul, 1) := by decide +kernel
theorem dX10_init_320 : decode cX10_init 320 = .ok (.bipush 20, 2) := by decide +kernel
theorem dX10_init_322 : decode cX10_init 322 = .ok (.iadd, 1) := by decide +kernel
theorem dX10_init_323 : decode cX10_init 323 = .ok (.iastore, 1) := by decide +kernel
theorem dX10_init_324 : decode cX10_init 324 = .ok (.iinc 2 1, 3) := by decide +kernel
theorem dX10_init_327 : decode cX10_init 327 = .ok (.goto (-42), 3) := by decide +kernel
theorem dX10_init_330 : decode cX10_init 330 = .ok (.aload_n 0, 1) := by decide +kernel
theorem dX10_init_331 : decode cX10_init 331 = .ok (.getfield 50, 3) := by decide +kernel
theorem dX10_init_334 : decode cX10_init 334 = .ok (.iload_n 1, 1) := by decide +kernel
theorem dX10_init_335 : decode cX10_init 335 = .ok (.iload_n 1, 1) := by decide +kernel
theorem dX10_init_336 : decode cX10_init 336 = .ok (.iastore, 1) := by decide +kernel
theorem dX10_init_337 : decode cX10_init 337 = .ok (.aload_n 0, 1) := by decide +kernel
theorem dX10_init_338 : decode cX10_init 338 = .ok (.getfield 56, 3) := by decide +kernel
theorem dX10_init_341 : decode cX10_init 341 = .ok (.iload_n 1, 1) := by decide +kernel
theorem dX10_init_342 : decode cX10_init 342 = .ok (.iload_n 1, 1) := by decide +kernel
theorem dX10_init_343 : decode cX10_init 343 = .ok (.iastore, 1) := by decide +kernel
theorem dX10_init_344 : decode cX10_init 344 = .ok (.iinc 1 1, 3) := by decide +kernel
theorem dX10_init_347 : decode cX10_init 347 = .ok (.goto (-70), 3) := by decide +kernel
theorem dX10_init_350 : decode cX10_init 350 = .ok (.iconst 0, 1) := by decide +kernel
theorem dX10_init_351 : decode cX10_init 351 = .ok (.istore_n 1, 1) := by decide +kernel
theorem dX10_init_352 : decode cX10_init 352 = .ok (.iload_n 1, 1) := by decide +kernel
theorem dX10_init_353 : decode cX10_init 353 = .ok (.iconst 3, 1) := by decide +kernel
theorem dX10_init_354 : decode cX10_init 354 = .ok (.if_icmp .ge 30, 3) := by decide +kernel
theorem dX10_init_357 : decode cX10_init 357 = .ok (.aload_n 0, 1) := by decide +kernel
theorem dX10_init_358 : decode cX10_init 358 = .ok (.getfield 32, 3) := by decide +kernel
theorem dX10_init_361 : decode cX10_init 361 = .ok (.iload_n 1, 1) := by decide +kernel
theorem dX10_init_362 : decode cX10_init 362 = .ok (.iconst 1, 1) := by decide +kernel
theorem dX10_init_363 : decode cX10_init 363 = .ok (.iastore, 1) := by decide +kernel
theorem dX10_init_364 : decode cX10_init 364 = .ok (.aload_n 0, 1) := by decide +kernel
theorem dX10_init_365 : decode cX10_init 365 = .ok (.getfield 38, 3) := by decide +kernel
theorem dX10_init_368 : decode cX10_init 368 = .ok (.bipush 6, 2) := by decide +kernel
theorem dX10_init_370 : decode cX10_init 370 = .ok (.iload_n 1, 1) := by decide +kernel
theorem dX10_init_371 : decode cX10_init 371 = .ok (.imul, 1) := by decide +kernel
theorem dX10_init_372 : decode cX10_init 372 = .ok (.sipush 300, 3) := by decide +kernel
theorem dX10_init_375 : decode cX10_init 375 = .ok (.iload_n 1, 1) := by decide +kernel
theorem dX10_init_376 : decode cX10_init 376 = .ok (.imul, 1) := by decide +kernel
theorem dX10_init_377 : decode cX10_init 377 = .ok (.iastore, 1) := by decide +kernel
theorem dX10_init_378 : decode cX10_init 378 = .ok (.iinc 1 1, 3) := by decide +kernel
theorem dX10_init_381 : decode cX10_init 381 = .ok (.goto (-29), 3) := by decide +kernel
theorem dX10_init_384 : decode cX10_init 384 = .ok (.iconst 0, 1) := by decide +kernel
theorem dX10_init_385 : decode cX10_init 385 = .ok (.istore_n 1, 1) := by decide +kernel
theorem dX10_init_386 : decode cX10_init 386 = .ok (.iload_n 1, 1) := by decide +kernel
theorem dX10_init_387 : decode cX10_init 387 = .ok (.iconst 4, 1) := by decide +kernel
theorem dX10_init_388 : decode cX10_init 388 = .ok (.if_icmp .ge 18, 3) := by decide +kernel
theorem dX10_init_391 : decode cX10_init 391 = .ok (.aload_n 0, 1) := by decide +kernel
theorem dX10_init_392 : decode cX10_init 392 = .ok (.getfield 59, 3) := by decide +kernel
theorem dX10_init_395 : decode cX10_init 395 = .ok (.iload_n 1, 1) := by decide +kernel
theorem dX10_init_396 : decode cX10_init 396 = .ok (.sipush 500, 3) := by decide +kernel
theorem dX10_init_399 : decode cX10_init 399 = .ok (.iastore, 1) := by decide +kernel
theorem dX10_init_400 : decode cX10_init 400 = .ok (.iinc 1 1, 3) := by decide +kernel
theorem dX10_init_403 : decode cX10_init 403 = .ok (.goto (-17), 3) := by decide +kernel
theorem dX10_init_406 : decode cX10_init 406 = .ok (.return_, 1) := by decide +kernel
theorem dX10_in_0 : decode cX10_in 0 = .ok (.iload_n 0, 1) := by decide +kernel
theorem dX10_in_1 : decode cX10_in 1 = .ok (.iload_n 1, 1) := by decide +kernel
theorem dX10_in_2 : decode cX10_in 2 = .ok (.if_icmp .lt 12, 3) := by decide +kernel
theorem dX10_in_5 : decode cX10_in 5 = .ok (.iload_n 0, 1) := by decide +kernel
theorem dX10_in_6 : decode cX10_in 6 = .ok (.iload_n 2, 1) := by decide +kernel
theorem dX10_in_7 : decode cX10_in 7 = .ok (.if_icmp .gt 7, 3) := by decide +kernel
theorem dX10_in_10 : decode cX10_in 10 = .ok (.iconst 1, 1) := by decide +kernel
theorem dX10_in_11 : decode cX10_in 11 = .ok (.goto 4, 3) := by decide +kernel
theorem dX10_in_14 : decode cX10_in 14 = .ok (.iconst 0, 1) := by decide +kernel
theorem dX10_in_15 : decode cX10_in 15 = .ok (.ireturn, 1) := by decide +kernel
set_option maxRecDepth 20000 in
theorem ggX10_isSection_X10_in : GoodIn wsX10_isSection wsX10_in := goodIn_r _ [4] (by decide +kernel) (by decide +kernel)
set_option maxRecDepth 20000 in
theorem gX10_isSection_X10_in : GoodIn wsX10_isSection (va_wsS RX10 117 yX10_in wsX10_in) := goodIn_app (goodIn_of _ (by decide +kernel)) ggX10_isSection_X10_in
theorem dX10_isSection_0 : decode cX10_isSection 0 = .ok (.iload_n 0, 1) := by decide +kernel
theorem dX10_isSection_1 : decode cX10_isSection 1 = .ok (.iconst 0, 1) := by decide +kernel
theorem dX10_isSection_2 : decode cX10_isSection 2 = .ok (.iconst 5, 1) := by decide +kernel
theorem dX10_isSection_3 : decode cX10_isSection 3 = .ok (.invokestatic 117, 3) := by decide +kernel
theorem dX10_isSection_6 : decode cX10_isSection 6 = .ok (.ireturn, 1) := by decide +kernel
set_option maxRecDepth 20000 in
theorem ggX10_isAct_X10_in : GoodIn wsX10_isAct wsX10_in := goodIn_r _ [4] (by decide +kernel) (by decide +kernel)
set_option maxRecDepth 20000 in
theorem gX10_isAct_X10_in : GoodIn wsX10_isAct (va_wsS RX10 117 yX10_in wsX10_in) := goodIn_app (goodIn_of _ (by decide +kernel)) ggX10_isAct_X10_in
theorem dX10_isAct_0 : decode cX10_isAct 0 = .ok (.iload_n 0, 1) := by decide +kernel
theorem dX10_isAct_1 : decode cX10_isAct 1 = .ok (.iconst 0, 1) := by decide +kernel
theorem dX10_isAct_2 : decode cX10_isAct 2 = .ok (.bipush 7, 2) := by decide +kernel
theorem dX10_isAct_4 : decode cX10_isAct 4 = .ok (.invokestatic 117, 3) := by decide +kernel
theorem dX10_isAct_7 : decode cX10_isAct 7 = .ok (.ireturn, 1) := by decide +kernel
set_option maxRecDepth 20000 in
theorem ggX10_isDegree_X10_in : GoodIn wsX10_isDegree wsX10_in := goodIn_r _ [4] (by decide +kernel) (by decide +kernel)
set_option maxRecDepth 20000 in
theorem gX10_isDegree_X10_in : GoodIn wsX10_isDegree (va_wsS RX10 117 yX10_in wsX10_in) := goodIn_app (goodIn_of _ (by decide +kernel)) ggX10_isDegree_X10_in
theorem dX10_isDegree_0 : decode cX10_isDegree 0 = .ok (.iload_n 0, 1) := by decide +kernel
theorem dX10_isDegree_1 : decode cX10_isDegree 1 = .ok (.iconst 0, 1) := by decide +kernel
theorem dX10_isDegree_2 : decode cX10_isDegree 2 = .ok (.sipush 359, 3) := by decide +kernel
theorem dX10_isDegree_5 : decode cX10_isDegree 5 = .ok (.invokestatic 117, 3) := by decide +kernel
theorem dX10_isDegree_8 : decode cX10_isDegree 8 = .ok (.ireturn, 1) := by decide +kernel
set_option maxRecDepth 20000 in
theorem ggX10_isArm_X10_in : GoodIn wsX10_isArm wsX10_in := goodIn_r _ [4] (by decide +kernel) (by decide +kernel)
set_option maxRecDepth 20000 in
theorem gX10_isArm_X10_in : GoodIn wsX10_isArm (va_wsS RX10 117 yX10_in wsX10_in) := goodIn_app (goodIn_of _ (by decide +kernel)) ggX10_isArm_X10_in
theorem dX10_isArm_0 : decode cX10_isArm 0 = .ok (.iload_n 0, 1) := by decide +kernel
theorem dX10_isArm_1 : decode cX10_isArm 1 = .ok (.iconst 0, 1) := by decide +kernel
theorem dX10_isArm_2 : decode cX10_isArm 2 = .ok (.iconst 2, 1) := by decide +kernel
theorem dX10_isArm_3 : decode cX10_isArm 3 = .ok (.invokestatic 117, 3) := by decide +kernel
theorem dX10_isArm_6 : decode cX10_isArm 6 = .ok (.ireturn, 1) := by decide +kernel
set_option maxRecDepth 20000 in
theorem ggX10_isMould_X10_in : GoodIn wsX10_isMould wsX10_in := goodIn_r _ [4] (by decide +kernel) (by decide +kernel)
set_option maxRecDepth 20000 in
theorem gX10_isMould_X10_in : GoodIn wsX10_isMould (va_wsS RX10 117 yX10_in wsX10_in) := goodIn_app (goodIn_of _ (by decide +kernel)) ggX10_isMould_X10_in
theorem dX10_isMould_0 : decode cX10_isMould 0 = .ok (.iload_n 0, 1) := by decide +kernel
theorem dX10_isMould_1 : decode cX10_isMould 1 = .ok (.iconst 0, 1) := by decide +kernel
theorem dX10_isMould_2 : decode cX10_isMould 2 = .ok (.bipush 29, 2) := by decide +kernel
theorem dX10_isMould_4 : decode cX10_isMould 4 = .ok (.invokestatic 117, 3) := by decide +kernel
theorem dX10_isMould_7 : decode cX10_isMould 7 = .ok (.ireturn, 1) := by decide +kernel
set_option maxRecDepth 20000 in
theorem ggX10_isJob_X10_in : GoodIn wsX10_isJob wsX10_in := goodIn_r _ [4] (by decide +kernel) (by decide +kernel)
set_option maxRecDepth 20000 in
theorem gX10_isJob_X10_in : GoodIn wsX10_isJob (va_wsS RX10 117 yX10_in wsX10_in) := goodIn_app (goodIn_of _ (by decide +kernel)) ggX10_isJob_X10_in
theorem dX10_isJob_0 : decode cX10_isJob 0 = .ok (.iload_n 0, 1) := by decide +kernel
theorem dX10_isJob_1 : decode cX10_isJob 1 = .ok (.iconst 0, 1) := by decide +kernel
theorem dX10_isJob_2 : decode cX10_isJob 2 = .ok (.iconst 3, 1) := by decide +kernel
theorem dX10_isJob_3 : decode cX10_isJob 3 = .ok (.invokestatic 117, 3) := by decide +kernel
theorem dX10_isJob_6 : decode cX10_isJob 6 = .ok (.ireturn, 1) := by decide +kernel
theorem dX10_lengthOf_0 : decode cX10_lengthOf 0 = .ok (.aload_n 0, 1) := by decide +kernel
theorem dX10_lengthOf_1 : decode cX10_lengthOf 1 = .ok (.getfield 13, 3) := by decide +kernel
theorem dX10_lengthOf_4 : decode cX10_lengthOf 4 = .ok (.bipush 8, 2) := by decide +kernel
theorem dX10_lengthOf_6 : decode cX10_lengthOf 6 = .ok (.iload_n 1, 1) := by decide +kernel
theorem dX10_lengthOf_7 : decode cX10_lengthOf 7 = .ok (.imul, 1) := by decide +kernel
theorem dX10_lengthOf_8 : decode cX10_lengthOf 8 = .ok (.iload_n 2, 1) := by decide +kernel
theorem dX10_lengthOf_9 : decode cX10_lengthOf 9 = .ok (.iadd, 1) := by decide +kernel
theorem dX10_lengthOf_10 : decode cX10_lengthOf 10 = .ok (.iaload, 1) := by decide +kernel
theorem dX10_lengthOf_11 : decode cX10_lengthOf 11 = .ok (.aload_n 0, 1) := by decide +kernel
theorem dX10_lengthOf_12 : decode cX10_lengthOf 12 = .ok (.getfield 7, 3) := by decide +kernel
theorem dX10_lengthOf_15 : decode cX10_lengthOf 15 = .ok (.bipush 8, 2) := by decide +kernel
theorem dX10_lengthOf_17 : decode cX10_lengthOf 17 = .ok (.iload_n 1, 1) := by decide +kernel
theorem dX10_lengthOf_18 : decode cX10_lengthOf 18 = .ok (.imul, 1) := by decide +kernel
theorem dX10_lengthOf_19 : decode cX10_lengthOf 19 = .ok (.iload_n 2, 1) := by decide +kernel
theorem dX10_lengthOf_20 : decode cX10_lengthOf 20 = .ok (.iadd, 1) := by decide +kernel
theorem dX10_lengthOf_21 : decode cX10_lengthOf 21 = .ok (.iaload, 1) := by decide +kernel
theorem dX10_lengthOf_22 : decode cX10_lengthOf 22 = .ok (.isub, 1) := by decide +kernel
theorem dX10_lengthOf_23 : decode cX10_lengthOf 23 = .ok (.sipush 360, 3) := by decide +kernel
theorem dX10_lengthOf_26 : decode cX10_lengthOf 26 = .ok (.iadd, 1) := by decide +kernel
theorem dX10_lengthOf_27 : decode cX10_lengthOf 27 = .ok (.sipush 360, 3) := by decide +kernel
theorem dX10_lengthOf_30 : decode cX10_lengthOf 30 = .ok (.irem, 1) := by decide +kernel
theorem dX10_lengthOf_31 : decode cX10_lengthOf 31 = .ok (.ireturn, 1) := by decide +kernel
set_option maxRecDepth 20000 in
theorem ggX10_isDone_X10_lengthOf : GoodIn wsX10_isDone wsX10_lengthOf := goodIn_r _ [6, 7, 1, 8, 9, 10, 11, 12, 13, 14, 15, 16, 17, 18, 19, 20, 21, 22, 23, 24, 25, 26, 27, 28, 29, 30, 31, 32, 33, 34, 35, 36, 37, 38, 39, 40, 41, 42, 43, 44, 45, 46, 47, 48, 49, 50, 51, 52] (by decide +kernel) (by decide +kernel)
set_option maxRecDepth 20000 in
theorem gX10_isDone_X10_lengthOf : GoodIn wsX10_isDone (wsV RX10 121 RX10 yX10_lengthOf wsX10_lengthOf) := goodIn_app (goodIn_of _ (by decide +kernel)) ggX10_isDone_X10_lengthOf
theorem dX10_isDone_0 : decode cX10_isDone 0 = .ok (.iload_n 3, 1) := by decide +kernel
theorem dX10_isDone_1 : decode cX10_isDone 1 = .ok (.aload_n 0, 1) := by decide +kernel
theorem dX10_isDone_2 : decode cX10_isDone 2 = .ok (.getfield 7, 3) := by decide +kernel
theorem dX10_isDone_5 : decode cX10_isDone 5 = .ok (.bipush 8, 2) := by decide +kernel
theorem dX10_isDone_7 : decode cX10_isDone 7 = .ok (.iload_n 1, 1) := by decide +kernel
theorem dX10_isDone_8 : decode cX10_isDone 8 = .ok (.imul, 1) := by decide +kernel
theorem dX10_isDone_9 : decode cX10_isDone 9 = .ok (.iload_n 2, 1) := by decide +kernel
theorem dX10_isDone_10 : decode cX10_isDone 10 = .ok (.iadd, 1) := by decide +kernel
theorem dX10_isDone_11 : decode cX10_isDone 11 = .ok (.iaload, 1) := by decide +kernel
theorem dX10_isDone_12 : decode cX10_isDone 12 = .ok (.isub, 1) := by decide +kernel
theorem dX10_isDone_13 : decode cX10_isDone 13 = .ok (.sipush 360, 3) := by decide +kernel
theorem dX10_isDone_16 : decode cX10_isDone 16 = .ok (.iadd, 1) := by decide +kernel
theorem dX10_isDone_17 : decode cX10_isDone 17 = .ok (.sipush 360, 3) := by decide +kernel
theorem dX10_isDone_20 : decode cX10_isDone 20 = .ok (.irem, 1) := by decide +kernel
theorem dX10_isDone_21 : decode cX10_isDone 21 = .ok (.aload_n 0, 1) := by decide +kernel
theorem dX10_isDone_22 : decode cX10_isDone 22 = .ok (.iload_n 1, 1) := by decide +kernel
theorem dX10_isDone_23 : decode cX10_isDone 23 = .ok (.iload_n 2, 1) := by decide +kernel
theorem dX10_isDone_24 : decode cX10_isDone 24 = .ok (.invokevirtual 121, 3) := by decide +kernel
theorem dX10_isDone_27 : decode cX10_isDone 27 = .ok (.if_icmp .ge 7, 3) := by decide +kernel
theorem dX10_isDone_30 : decode cX10_isDone 30 = .ok (.iconst 1, 1) := by decide +kernel
theorem dX10_isDone_31 : decode cX10_isDone 31 = .ok (.goto 4, 3) := by decide +kernel
theorem dX10_isDone_34 : decode cX10_isDone 34 = .ok (.iconst 0, 1) := by decide +kernel
theorem dX10_isDone_35 : decode cX10_isDone 35 = .ok (.ireturn, 1) := by decide +kernel
set_option maxRecDepth 20000 in
theorem ggX10_keeps_X10_lengthOf : GoodIn wsX10_keeps wsX10_lengthOf := goodIn_r _ [11, 6, 5, 16, 17, 18, 19, 20, 21, 22, 23, 24, 25, 26, 27, 28, 29, 30, 31, 32, 33, 34, 35, 36, 37, 38, 39, 40, 41, 42, 43, 44, 45, 46, 47, 48, 49, 50, 51, 52, 53, 54, 55, 56, 57, 58, 59, 60] (by decide +kernel) (by decide +kernel)
set_option maxRecDepth 20000 in
theorem gX10_keeps_X10_lengthOf : GoodIn wsX10_keeps (wsV RX10 121 RX10 yX10_lengthOf wsX10_lengthOf) := goodIn_app (goodIn_of _ (by decide +kernel)) ggX10_keeps_X10_lengthOf
set_option maxRecDepth 20000 in
theorem ggX10_keeps_X10_isDone : GoodIn wsX10_keeps wsX10_isDone := goodIn_r _ [15, 5, 7, 8, 9, 10, 11, 6, 16, 17, 18, 19, 20, 21, 22, 23, 24, 25, 26, 27, 28, 29, 30, 31, 32, 33, 34, 35, 36, 37, 38, 39, 40, 41, 42, 43, 44, 45, 46, 47, 48, 49, 50, 51, 52, 53, 54, 55, 56, 57, 58, 59, 60] (by decide +kernel) (by decide +kernel)
set_option maxRecDepth 20000 in
theorem gX10_keeps_X10_isDone : GoodIn wsX10_keeps (wsV RX10 125 RX10 yX10_isDone wsX10_isDone) := goodIn_app (goodIn_of _ (by decide +kernel)) ggX10_keeps_X10_isDone
theorem dX10_keeps_0 : decode cX10_keeps 0 = .ok (.aload_n 0, 1) := by decide +kernel
theorem dX10_keeps_1 : decode cX10_keeps 1 = .ok (.getfield 19, 3) := by decide +kernel
theorem dX10_keeps_4 : decode cX10_keeps 4 = .ok (.iload_n 2, 1) := by decide +kernel
theorem dX10_keeps_5 : decode cX10_keeps 5 = .ok (.iaload, 1) := by decide +kernel
theorem dX10_keeps_6 : decode cX10_keeps 6 = .ok (.istore 4, 2) := by decide +kernel
theorem dX10_keeps_8 : decode cX10_keeps 8 = .ok (.aload_n 0, 1) := by decide +kernel
theorem dX10_keeps_9 : decode cX10_keeps 9 = .ok (.getfield 22, 3) := by decide +kernel
theorem dX10_keeps_12 : decode cX10_keeps 12 = .ok (.iload_n 2, 1) := by decide +kernel
theorem dX10_keeps_13 : decode cX10_keeps 13 = .ok (.iaload, 1) := by decide +kernel
theorem dX10_keeps_14 : decode cX10_keeps 14 = .ok (.istore 5, 2) := by decide +kernel
theorem dX10_keeps_16 : decode cX10_keeps 16 = .ok (.aload_n 0, 1) := by decide +kernel
theorem dX10_keeps_17 : decode cX10_keeps 17 = .ok (.getfield 25, 3) := by decide +kernel
theorem dX10_keeps_20 : decode cX10_keeps 20 = .ok (.iload_n 2, 1) := by decide +kernel
theorem dX10_keeps_21 : decode cX10_keeps 21 = .ok (.iaload, 1) := by decide +kernel
theorem dX10_keeps_22 : decode cX10_keeps 22 = .ok (.istore 6, 2) := by decide +kernel
theorem dX10_keeps_24 : decode cX10_keeps 24 = .ok (.aload_n 0, 1) := by decide +kernel
theorem dX10_keeps_25 : decode cX10_keeps 25 = .ok (.getfield 16, 3) := by decide +kernel
theorem dX10_keeps_28 : decode cX10_keeps 28 = .ok (.iload_n 2, 1) := by decide +kernel
theorem dX10_keeps_29 : decode cX10_keeps 29 = .ok (.iaload, 1) := by decide +kernel
theorem dX10_keeps_30 : decode cX10_keeps 30 = .ok (.ifCond .ne 47, 3) := by decide +kernel
theorem dX10_keeps_33 : decode cX10_keeps 33 = .ok (.aload_n 0, 1) := by decide +kernel
theorem dX10_keeps_34 : decode cX10_keeps 34 = .ok (.getfield 7, 3) := by decide +kernel
theorem dX10_keeps_37 : decode cX10_keeps 37 = .ok (.bipush 8, 2) := by decide +kernel
theorem dX10_keeps_39 : decode cX10_keeps 39 = .ok (.iload_n 1, 1) := by decide +kernel
theorem dX10_keeps_40 : decode cX10_keeps 40 = .ok (.imul, 1) := by decide +kernel
theorem dX10_keeps_41 : decode cX10_keeps 41 = .ok (.iload 5, 2) := by decide +kernel
theorem dX10_keeps_43 : decode cX10_keeps 43 = .ok (.iadd, 1) := by decide +kernel
theorem dX10_keeps_44 : decode cX10_keeps 44 = .ok (.iaload, 1) := by decide +kernel
theorem dX10_keeps_45 : decode cX10_keeps 45 = .ok (.aload_n 0, 1) := by decide +kernel
theorem dX10_keeps_46 : decode cX10_keeps 46 = .ok (.getfield 13, 3) := by decide +kernel
theorem dX10_keeps_49 : decode cX10_keeps 49 = .ok (.bipush 8, 2) := by decide +kernel
theorem dX10_keeps_51 : decode cX10_keeps 51 = .ok (.iload_n 1, 1) := by decide +kernel
theorem dX10_keeps_52 : decode cX10_keeps 52 = .ok (.imul, 1) := by decide +kernel
theorem dX10_keeps_53 : decode cX10_keeps 53 = .ok (.iload 4, 2) := by decide +kernel
theorem dX10_keeps_55 : decode cX10_keeps 55 = .ok (.iadd, 1) := by decide +kernel
theorem dX10_keeps_56 : decode cX10_keeps 56 = .ok (.iaload, 1) := by decide +kernel
theorem dX10_keeps_57 : decode cX10_keeps 57 = .ok (.isub, 1) := by decide +kernel
theorem dX10_keeps_58 : decode cX10_keeps 58 = .ok (.sipush 360, 3) := by decide +kernel
theorem dX10_keeps_61 : decode cX10_keeps 61 = .ok (.iadd, 1) := by decide +kernel
theorem dX10_keeps_62 : decode cX10_keeps 62 = .ok (.sipush 360, 3) := by decide +kernel
theorem dX10_keeps_65 : decode cX10_keeps 65 = .ok (.irem, 1) := by decide +kernel
theorem dX10_keeps_66 : decode cX10_keeps 66 = .ok (.iload 6, 2) := by decide +kernel
theorem dX10_keeps_68 : decode cX10_keeps 68 = .ok (.if_icmp .lt 7, 3) := by decide +kernel
theorem dX10_keeps_71 : decode cX10_keeps 71 = .ok (.iconst 1, 1) := by decide +kernel
theorem dX10_keeps_72 : decode cX10_keeps 72 = .ok (.goto 4, 3) := by decide +kernel
theorem dX10_keeps_75 : decode cX10_keeps 75 = .ok (.iconst 0, 1) := by decide +kernel
theorem dX10_keeps_76 : decode cX10_keeps 76 = .ok (.ireturn, 1) := by decide +kernel
theorem dX10_keeps_77 : decode cX10_keeps 77 = .ok (.aload_n 0, 1) := by decide +kernel
theorem dX10_keeps_78 : decode cX10_keeps 78 = .ok (.getfield 16, 3) := by decide +kernel
theorem dX10_keeps_81 : decode cX10_keeps 81 = .ok (.iload_n 2, 1) := by decide +kernel
theorem dX10_keeps_82 : decode cX10_keeps 82 = .ok (.iaload, 1) := by decide +kernel
theorem dX10_keeps_83 : decode cX10_keeps 83 = .ok (.iconst 2, 1) := by decide +kernel
theorem dX10_keeps_84 : decode cX10_keeps 84 = .ok (.if_icmp .ne 29, 3) := by decide +kernel
theorem dX10_keeps_87 : decode cX10_keeps 87 = .ok (.sipush 500, 3) := by decide +kernel
theorem dX10_keeps_90 : decode cX10_keeps 90 = .ok (.aload_n 0, 1) := by decide +kernel
theorem dX10_keeps_91 : decode cX10_keeps 91 = .ok (.iload_n 1, 1) := by decide +kernel
theorem dX10_keeps_92 : decode cX10_keeps 92 = .ok (.iload 4, 2) := by decide +kernel
theorem dX10_keeps_94 : decode cX10_keeps 94 = .ok (.invokevirtual 121, 3) := by decide +kernel
theorem dX10_keeps_97 : decode cX10_keeps 97 = .ok (.imul, 1) := by decide +kernel
theorem dX10_keeps_98 : decode cX10_keeps 98 = .ok (.iconst 3, 1) := by decide +kernel
theorem dX10_keeps_99 : decode cX10_keeps 99 = .ok (.iload_n 3, 1) := by decide +kernel
theorem dX10_keeps_100 : decode cX10_keeps 100 = .ok (.imul, 1) := by decide +kernel
theorem dX10_keeps_101 : decode cX10_keeps 101 = .ok (.iload 6, 2) := by decide +kernel
theorem dX10_keeps_103 : decode cX10_keeps 103 = .ok (.imul, 1) := by decide +kernel
theorem dX10_keeps_104 : decode cX10_keeps 104 = .ok (.if_icmp .lt 7, 3) := by decide +kernel
theorem dX10_keeps_107 : decode cX10_keeps 107 = .ok (.iconst 1, 1) := by decide +kernel
theorem dX10_keeps_108 : decode cX10_keeps 108 = .ok (.goto 4, 3) := by decide +kernel
theorem dX10_keeps_111 : decode cX10_keeps 111 = .ok (.iconst 0, 1) := by decide +kernel
theorem dX10_keeps_112 : decode cX10_keeps 112 = .ok (.ireturn, 1) := by decide +kernel
theorem dX10_keeps_113 : decode cX10_keeps 113 = .ok (.iconst 1, 1) := by decide +kernel
theorem dX10_keeps_114 : decode cX10_keeps 114 = .ok (.istore 7, 2) := by decide +kernel
theorem dX10_keeps_116 : decode cX10_keeps 116 = .ok (.iconst 0, 1) := by decide +kernel
theorem dX10_keeps_117 : decode cX10_keeps 117 = .ok (.istore 8, 2) := by decide +kernel
theorem dX10_keeps_119 : decode cX10_keeps 119 = .ok (.iload 8, 2) := by decide +kernel
theorem dX10_keeps_121 : decode cX10_keeps 121 = .ok (.sipush 360, 3) := by decide +kernel
theorem dX10_keeps_124 : decode cX10_keeps 124 = .ok (.if_icmp .ge 76, 3) := by decide +kernel
theorem dX10_keeps_127 : decode cX10_keeps 127 = .ok (.aload_n 0, 1) := by decide +kernel
theorem dX10_keeps_128 : decode cX10_keeps 128 = .ok (.iload_n 1, 1) := by decide +kernel
theorem dX10_keeps_129 : decode cX10_keeps 129 = .ok (.iload 4, 2) := by decide +kernel
theorem dX10_keeps_131 : decode cX10_keeps 131 = .ok (.iload 8, 2) := by decide +kernel
theorem dX10_keeps_133 : decode cX10_keeps 133 = .ok (.invokevirtual 125, 3) := by decide +kernel
theorem dX10_keeps_136 : decode cX10_keeps 136 = .ok (.istore 9, 2) := by decide +kernel
theorem dX10_keeps_138 : decode cX10_keeps 138 = .ok (.aload_n 0, 1) := by decide +kernel
theorem dX10_keeps_139 : decode cX10_keeps 139 = .ok (.iload_n 1, 1) := by decide +kernel
theorem dX10_keeps_140 : decode cX10_keeps 140 = .ok (.iload 5, 2) := by decide +kernel
theorem dX10_keeps_142 : decode cX10_keeps 142 = .ok (.iload 8, 2) := by decide +kernel
theorem dX10_keeps_144 : decode cX10_keeps 144 = .ok (.invokevirtual 125, 3) := by decide +kernel
theorem dX10_keeps_147 : decode cX10_keeps 147 = .ok (.istore 10, 2) := by decide +kernel
theorem dX10_keeps_149 : decode cX10_keeps 149 = .ok (.iload 7, 2) := by decide +kernel
theorem dX10_keeps_151 : decode cX10_keeps 151 = .ok (.ifCond .eq 40, 3) := by decide +kernel
theorem dX10_keeps_154 : decode cX10_keeps 154 = .ok (.aload_n 0, 1) := by decide +kernel
theorem dX10_keeps_155 : decode cX10_keeps 155 = .ok (.getfield 16, 3) := by decide +kernel
theorem dX10_keeps_158 : decode cX10_keeps 158 = .ok (.iload_n 2, 1) := by decide +kernel
theorem dX10_keeps_159 : decode cX10_keeps 159 = .ok (.iaload, 1) := by decide +kernel
theorem dX10_keeps_160 : decode cX10_keeps 160 = .ok (.iconst 1, 1) := by decide +kernel
theorem dX10_keeps_161 : decode cX10_keeps 161 = .ok (.if_icmp .ne 16, 3) := by decide +kernel
theorem dX10_keeps_164 : decode cX10_keeps 164 = .ok (.iload 9, 2) := by decide +kernel
theorem dX10_keeps_166 : decode cX10_keeps 166 = .ok (.ifCond .eq 21, 3) := by decide +kernel
theorem dX10_keeps_169 : decode cX10_keeps 169 = .ok (.iload 10, 2) := by decide +kernel
theorem dX10_keeps_171 : decode cX10_keeps 171 = .ok (.ifCond .eq 16, 3) := by decide +kernel
theorem dX10_keeps_174 : decode cX10_keeps 174 = .ok (.goto 17, 3) := by decide +kernel
theorem dX10_keeps_177 : decode cX10_keeps 177 = .ok (.iload 9, 2) := by decide +kernel
theorem dX10_keeps_179 : decode cX10_keeps 179 = .ok (.ifCond .eq 8, 3) := by decide +kernel
theorem dX10_keeps_182 : decode cX10_keeps 182 = .ok (.iload 10, 2) := by decide +kernel
theorem dX10_keeps_184 : decode cX10_keeps 184 = .ok (.ifCond .eq 7, 3) := by decide +kernel
theorem dX10_keeps_187 : decode cX10_keeps 187 = .ok (.iconst 1, 1) := by decide +kernel
theorem dX10_keeps_188 : decode cX10_keeps 188 = .ok (.goto 4, 3) := by decide +kernel
theorem dX10_keeps_191 : decode cX10_keeps 191 = .ok (.iconst 0, 1) := by decide +kernel
theorem dX10_keeps_192 : decode cX10_keeps 192 = .ok (.istore 7, 2) := by decide +kernel
theorem dX10_keeps_194 : decode cX10_keeps 194 = .ok (.iinc 8 1, 3) := by decide +kernel
theorem dX10_keeps_197 : decode cX10_keeps 197 = .ok (.goto (-78), 3) := by decide +kernel
theorem dX10_keeps_200 : decode cX10_keeps 200 = .ok (.iload 7, 2) := by decide +kernel
theorem dX10_keeps_202 : decode cX10_keeps 202 = .ok (.ireturn, 1) := by decide +kernel
set_option maxRecDepth 20000 in
theorem ggX10_brokenBy_X10_keeps : GoodIn wsX10_brokenBy wsX10_keeps := goodIn_r _ [7, 8, 9, 10, 11, 12, 13, 14, 15, 16, 6, 17, 18, 19, 20, 21, 22, 23, 24, 25, 26, 27, 28, 29, 30, 31, 32, 33, 34, 35, 36, 37, 38, 39, 40, 41, 42, 43, 44, 45, 46, 47, 48, 49, 50, 51, 52, 53, 54, 55, 56, 57, 58, 59, 60, 61, 62, 63, 64, 65, 66] (by decide +kernel) (by decide +kernel)
set_option maxRecDepth 20000 in
theorem gX10_brokenBy_X10_keeps : GoodIn wsX10_brokenBy (wsV RX10 131 RX10 yX10_keeps wsX10_keeps) := goodIn_app (goodIn_of _ (by decide +kernel)) ggX10_brokenBy_X10_keeps
theorem dX10_brokenBy_0 : decode cX10_brokenBy 0 = .ok (.iconst 0, 1) := by decide +kernel
theorem dX10_brokenBy_1 : decode cX10_brokenBy 1 = .ok (.istore_n 2, 1) := by decide +kernel
theorem dX10_brokenBy_2 : decode cX10_brokenBy 2 = .ok (.iload_n 2, 1) := by decide +kernel
theorem dX10_brokenBy_3 : decode cX10_brokenBy 3 = .ok (.aload_n 0, 1) := by decide +kernel
theorem dX10_brokenBy_4 : decode cX10_brokenBy 4 = .ok (.getfield 128, 3) := by decide +kernel
theorem dX10_brokenBy_7 : decode cX10_brokenBy 7 = .ok (.if_icmp .ge 24, 3) := by decide +kernel
theorem dX10_brokenBy_10 : decode cX10_brokenBy 10 = .ok (.aload_n 0, 1) := by decide +kernel
theorem dX10_brokenBy_11 : decode cX10_brokenBy 11 = .ok (.iload_n 1, 1) := by decide +kernel
theorem dX10_brokenBy_12 : decode cX10_brokenBy 12 = .ok (.iload_n 2, 1) := by decide +kernel
theorem dX10_brokenBy_13 : decode cX10_brokenBy 13 = .ok (.aload_n 0, 1) := by decide +kernel
theorem dX10_brokenBy_14 : decode cX10_brokenBy 14 = .ok (.getfield 28, 3) := by decide +kernel
theorem dX10_brokenBy_17 : decode cX10_brokenBy 17 = .ok (.invokevirtual 131, 3) := by decide +kernel
theorem dX10_brokenBy_20 : decode cX10_brokenBy 20 = .ok (.ifCond .ne 5, 3) := by decide +kernel
theorem dX10_brokenBy_23 : decode cX10_brokenBy 23 = .ok (.iload_n 2, 1) := by decide +kernel
theorem dX10_brokenBy_24 : decode cX10_brokenBy 24 = .ok (.ireturn, 1) := by decide +kernel
theorem dX10_brokenBy_25 : decode cX10_brokenBy 25 = .ok (.iinc 2 1, 3) := by decide +kernel
theorem dX10_brokenBy_28 : decode cX10_brokenBy 28 = .ok (.goto (-26), 3) := by decide +kernel
theorem dX10_brokenBy_31 : decode cX10_brokenBy 31 = .ok (.iconst (-1), 1) := by decide +kernel
theorem dX10_brokenBy_32 : decode cX10_brokenBy 32 = .ok (.ireturn, 1) := by decide +kernel
set_option maxRecDepth 20000 in
theorem ggX10_brokenAt_X10_keeps : GoodIn wsX10_brokenAt wsX10_keeps := goodIn_r _ [6, 7, 8, 9, 10, 11, 12, 13, 14, 15, 5, 16, 17, 18, 19, 20, 21, 22, 23, 24, 25, 26, 27, 28, 29, 30, 31, 32, 33, 34, 35, 36, 37, 38, 39, 40, 41, 42, 43, 44, 45, 46, 47, 48, 49, 50, 51, 52, 53, 54, 55, 56, 57, 58, 59, 60, 61, 62, 63, 64, 65] (by decide +kernel) (by decide +kernel)
set_option maxRecDepth 20000 in
theorem gX10_brokenAt_X10_keeps : GoodIn wsX10_brokenAt (wsV RX10 131 RX10 yX10_keeps wsX10_keeps) := goodIn_app (goodIn_of _ (by decide +kernel)) ggX10_brokenAt_X10_keeps
theorem dX10_brokenAt_0 : decode cX10_brokenAt 0 = .ok (.iconst 0, 1) := by decide +kernel
theorem dX10_brokenAt_1 : decode cX10_brokenAt 1 = .ok (.istore_n 2, 1) := by decide +kernel
theorem dX10_brokenAt_2 : decode cX10_brokenAt 2 = .ok (.iload_n 2, 1) := by decide +kernel
theorem dX10_brokenAt_3 : decode cX10_brokenAt 3 = .ok (.aload_n 0, 1) := by decide +kernel
theorem dX10_brokenAt_4 : decode cX10_brokenAt 4 = .ok (.getfield 128, 3) := by decide +kernel
theorem dX10_brokenAt_7 : decode cX10_brokenAt 7 = .ok (.if_icmp .ge 35, 3) := by decide +kernel
theorem dX10_brokenAt_10 : decode cX10_brokenAt 10 = .ok (.iconst 0, 1) := by decide +kernel
theorem dX10_brokenAt_11 : decode cX10_brokenAt 11 = .ok (.istore_n 3, 1) := by decide +kernel
theorem dX10_brokenAt_12 : decode cX10_brokenAt 12 = .ok (.iload_n 3, 1) := by decide +kernel
theorem dX10_brokenAt_13 : decode cX10_brokenAt 13 = .ok (.bipush 6, 2) := by decide +kernel
theorem dX10_brokenAt_15 : decode cX10_brokenAt 15 = .ok (.if_icmp .ge 21, 3) := by decide +kernel
theorem dX10_brokenAt_18 : decode cX10_brokenAt 18 = .ok (.aload_n 0, 1) := by decide +kernel
theorem dX10_brokenAt_19 : decode cX10_brokenAt 19 = .ok (.iload_n 3, 1) := by decide +kernel
theorem dX10_brokenAt_20 : decode cX10_brokenAt 20 = .ok (.iload_n 2, 1) := by decide +kernel
theorem dX10_brokenAt_21 : decode cX10_brokenAt 21 = .ok (.iload_n 1, 1) := by decide +kernel
theorem dX10_brokenAt_22 : decode cX10_brokenAt 22 = .ok (.invokevirtual 131, 3) := by decide +kernel
theorem dX10_brokenAt_25 : decode cX10_brokenAt 25 = .ok (.ifCond .ne 5, 3) := by decide +kernel
theorem dX10_brokenAt_28 : decode cX10_brokenAt 28 = .ok (.iload_n 2, 1) := by decide +kernel
theorem dX10_brokenAt_29 : decode cX10_brokenAt 29 = .ok (.ireturn, 1) := by decide +kernel
theorem dX10_brokenAt_30 : decode cX10_brokenAt 30 = .ok (.iinc 3 1, 3) := by decide +kernel
theorem dX10_brokenAt_33 : decode cX10_brokenAt 33 = .ok (.goto (-21), 3) := by decide +kernel
theorem dX10_brokenAt_36 : decode cX10_brokenAt 36 = .ok (.iinc 2 1, 3) := by decide +kernel
theorem dX10_brokenAt_39 : decode cX10_brokenAt 39 = .ok (.goto (-37), 3) := by decide +kernel
theorem dX10_brokenAt_42 : decode cX10_brokenAt 42 = .ok (.iconst (-1), 1) := by decide +kernel
theorem dX10_brokenAt_43 : decode cX10_brokenAt 43 = .ok (.ireturn, 1) := by decide +kernel
set_option maxRecDepth 20000 in
theorem ggX10_maySet_X10_isSection : GoodIn wsX10_maySet wsX10_isSection := goodIn_r _ [4, 5, 6, 3, 7] (by decide +kernel) (by decide +kernel)
set_option maxRecDepth 20000 in
theorem gX10_maySet_X10_isSection : GoodIn wsX10_maySet (va_wsS RX10 134 yX10_isSection wsX10_isSection) := goodIn_app (goodIn_of _ (by decide +kernel)) ggX10_maySet_X10_isSection
set_option maxRecDepth 20000 in
theorem ggX10_maySet_X10_isAct : GoodIn wsX10_maySet wsX10_isAct := goodIn_r _ [10, 5, 6, 3, 7] (by decide +kernel) (by decide +kernel)
set_option maxRecDepth 20000 in
theorem gX10_maySet_X10_isAct : GoodIn wsX10_maySet (va_wsS RX10 138 yX10_isAct wsX10_isAct) := goodIn_app (goodIn_of _ (by decide +kernel)) ggX10_maySet_X10_isAct
set_option maxRecDepth 20000 in
theorem ggX10_maySet_X10_isDegree : GoodIn wsX10_maySet wsX10_isDegree := goodIn_r _ [13, 5, 6, 3, 7] (by decide +kernel) (by decide +kernel)
set_option maxRecDepth 20000 in
theorem gX10_maySet_X10_isDegree : GoodIn wsX10_maySet (va_wsS RX10 141 yX10_isDegree wsX10_isDegree) := goodIn_app (goodIn_of _ (by decide +kernel)) ggX10_maySet_X10_isDegree
theorem dX10_maySet_0 : decode cX10_maySet 0 = .ok (.iload_n 1, 1) := by decide +kernel
theorem dX10_maySet_1 : decode cX10_maySet 1 = .ok (.invokestatic 134, 3) := by decide +kernel
theorem dX10_maySet_4 : decode cX10_maySet 4 = .ok (.ifCond .eq 35, 3) := by decide +kernel
theorem dX10_maySet_7 : decode cX10_maySet 7 = .ok (.iload_n 2, 1) := by decide +kernel
theorem dX10_maySet_8 : decode cX10_maySet 8 = .ok (.invokestatic 138, 3) := by decide +kernel
theorem dX10_maySet_11 : decode cX10_maySet 11 = .ok (.ifCond .eq 28, 3) := by decide +kernel
theorem dX10_maySet_14 : decode cX10_maySet 14 = .ok (.iload_n 3, 1) := by decide +kernel
theorem dX10_maySet_15 : decode cX10_maySet 15 = .ok (.invokestatic 141, 3) := by decide +kernel
theorem dX10_maySet_18 : decode cX10_maySet 18 = .ok (.ifCond .eq 21, 3) := by decide +kernel
theorem dX10_maySet_21 : decode cX10_maySet 21 = .ok (.iload 4, 2) := by decide +kernel
theorem dX10_maySet_23 : decode cX10_maySet 23 = .ok (.invokestatic 141, 3) := by decide +kernel
theorem dX10_maySet_26 : decode cX10_maySet 26 = .ok (.ifCond .eq 13, 3) := by decide +kernel
theorem dX10_maySet_29 : decode cX10_maySet 29 = .ok (.iload_n 3, 1) := by decide +kernel
theorem dX10_maySet_30 : decode cX10_maySet 30 = .ok (.iload 4, 2) := by decide +kernel
theorem dX10_maySet_32 : decode cX10_maySet 32 = .ok (.if_icmp .eq 7, 3) := by decide +kernel
theorem dX10_maySet_35 : decode cX10_maySet 35 = .ok (.iconst 1, 1) := by decide +kernel
theorem dX10_maySet_36 : decode cX10_maySet 36 = .ok (.goto 4, 3) := by decide +kernel
theorem dX10_maySet_39 : decode cX10_maySet 39 = .ok (.iconst 0, 1) := by decide +kernel
theorem dX10_maySet_40 : decode cX10_maySet 40 = .ok (.ireturn, 1) := by decide +kernel
set_option maxRecDepth 20000 in
theorem ggX10_set_X10_maySet : GoodIn wsX10_set wsX10_maySet := goodIn_r _ [7, 8, 9, 6, 10, 11, 12, 13, 14, 15, 16, 17, 18, 19] (by decide +kernel) (by decide +kernel)
set_option maxRecDepth 20000 in
theorem gX10_set_X10_maySet : GoodIn wsX10_set (wsV RX10 144 RX10 yX10_maySet wsX10_maySet) := goodIn_app (goodIn_of _ (by decide +kernel)) ggX10_set_X10_maySet
set_option maxRecDepth 20000 in
theorem ggX10_set_X10_brokenBy : GoodIn wsX10_set wsX10_brokenBy := goodIn_r _ [23, 24, 25, 26, 27, 28, 6, 29, 30, 31, 32, 33, 1, 2, 34, 35, 36, 37, 38, 39, 40, 41, 42, 43, 44, 45, 46, 47, 48, 49, 50, 51, 52, 53, 54, 55, 56, 57, 58, 59, 60, 61, 62, 63, 64, 65, 66, 67, 68, 69, 70, 71, 72, 73, 74, 75, 76, 77, 78, 79, 80, 81, 82, 83, 84, 85, 86] (by decide +kernel) (by decide +kernel)
set_option maxRecDepth 20000 in
theorem gX10_set_X10_brokenBy : GoodIn wsX10_set (wsV RX10 148 RX10 yX10_brokenBy wsX10_brokenBy) := goodIn_app (goodIn_of _ (by decide +kernel)) ggX10_set_X10_brokenBy
theorem dX10_set_0 : decode cX10_set 0 = .ok (.aload_n 0, 1) := by decide +kernel
theorem dX10_set_1 : decode cX10_set 1 = .ok (.iload_n 1, 1) := by decide +kernel
theorem dX10_set_2 : decode cX10_set 2 = .ok (.iload_n 2, 1) := by decide +kernel
theorem dX10_set_3 : decode cX10_set 3 = .ok (.iload_n 3, 1) := by decide +kernel
theorem dX10_set_4 : decode cX10_set 4 = .ok (.iload 4, 2) := by decide +kernel
theorem dX10_set_6 : decode cX10_set 6 = .ok (.invokevirtual 144, 3) := by decide +kernel
theorem dX10_set_9 : decode cX10_set 9 = .ok (.ifCond .ne 5, 3) := by decide +kernel
theorem dX10_set_12 : decode cX10_set 12 = .ok (.iconst (-1), 1) := by decide +kernel
theorem dX10_set_13 : decode cX10_set 13 = .ok (.ireturn, 1) := by decide +kernel
theorem dX10_set_14 : decode cX10_set 14 = .ok (.bipush 8, 2) := by decide +kernel
theorem dX10_set_16 : decode cX10_set 16 = .ok (.iload_n 1, 1) := by decide +kernel
theorem dX10_set_17 : decode cX10_set 17 = .ok (.imul, 1) := by decide +kernel
theorem dX10_set_18 : decode cX10_set 18 = .ok (.iload_n 2, 1) := by decide +kernel
theorem dX10_set_19 : decode cX10_set 19 = .ok (.iadd, 1) := by decide +kernel
theorem dX10_set_20 : decode cX10_set 20 = .ok (.istore 5, 2) := by decide +kernel
theorem dX10_set_22 : decode cX10_set 22 = .ok (.aload_n 0, 1) := by decide +kernel
theorem dX10_set_23 : decode cX10_set 23 = .ok (.getfield 7, 3) := by decide +kernel
theorem dX10_set_26 : decode cX10_set 26 = .ok (.iload 5, 2) := by decide +kernel
theorem dX10_set_28 : decode cX10_set 28 = .ok (.iaload, 1) := by decide +kernel
theorem dX10_set_29 : decode cX10_set 29 = .ok (.istore 6, 2) := by decide +kernel
theorem dX10_set_31 : decode cX10_set 31 = .ok (.aload_n 0, 1) := by decide +kernel
theorem dX10_set_32 : decode cX10_set 32 = .ok (.getfield 13, 3) := by decide +kernel
theorem dX10_set_35 : decode cX10_set 35 = .ok (.iload 5, 2) := by decide +kernel
theorem dX10_set_37 : decode cX10_set 37 = .ok (.iaload, 1) := by decide +kernel
theorem dX10_set_38 : decode cX10_set 38 = .ok (.istore 7, 2) := by decide +kernel
theorem dX10_set_40 : decode cX10_set 40 = .ok (.aload_n 0, 1) := by decide +kernel
theorem dX10_set_41 : decode cX10_set 41 = .ok (.getfield 7, 3) := by decide +kernel
theorem dX10_set_44 : decode cX10_set 44 = .ok (.iload 5, 2) := by decide +kernel
theorem dX10_set_46 : decode cX10_set 46 = .ok (.iload_n 3, 1) := by decide +kernel
theorem dX10_set_47 : decode cX10_set 47 = .ok (.iastore, 1) := by decide +kernel
theorem dX10_set_48 : decode cX10_set 48 = .ok (.aload_n 0, 1) := by decide +kernel
theorem dX10_set_49 : decode cX10_set 49 = .ok (.getfield 13, 3) := by decide +kernel
theorem dX10_set_52 : decode cX10_set 52 = .ok (.iload 5, 2) := by decide +kernel
theorem dX10_set_54 : decode cX10_set 54 = .ok (.iload 4, 2) := by decide +kernel
theorem dX10_set_56 : decode cX10_set 56 = .ok (.iastore, 1) := by decide +kernel
theorem dX10_set_57 : decode cX10_set 57 = .ok (.aload_n 0, 1) := by decide +kernel
theorem dX10_set_58 : decode cX10_set 58 = .ok (.iload_n 1, 1) := by decide +kernel
theorem dX10_set_59 : decode cX10_set 59 = .ok (.invokevirtual 148, 3) := by decide +kernel
theorem dX10_set_62 : decode cX10_set 62 = .ok (.istore 8, 2) := by decide +kernel
theorem dX10_set_64 : decode cX10_set 64 = .ok (.iload 8, 2) := by decide +kernel
theorem dX10_set_66 : decode cX10_set 66 = .ok (.ifCond .lt 27, 3) := by decide +kernel
theorem dX10_set_69 : decode cX10_set 69 = .ok (.aload_n 0, 1) := by decide +kernel
theorem dX10_set_70 : decode cX10_set 70 = .ok (.getfield 7, 3) := by decide +kernel
theorem dX10_set_73 : decode cX10_set 73 = .ok (.iload 5, 2) := by decide +kernel
theorem dX10_set_75 : decode cX10_set 75 = .ok (.iload 6, 2) := by decide +kernel
theorem dX10_set_77 : decode cX10_set 77 = .ok (.iastore, 1) := by decide +kernel
theorem dX10_set_78 : decode cX10_set 78 = .ok (.aload_n 0, 1) := by decide +kernel
theorem dX10_set_79 : decode cX10_set 79 = .ok (.getfield 13, 3) := by decide +kernel
theorem dX10_set_82 : decode cX10_set 82 = .ok (.iload 5, 2) := by decide +kernel
theorem dX10_set_84 : decode cX10_set 84 = .ok (.iload 7, 2) := by decide +kernel
theorem dX10_set_86 : decode cX10_set 86 = .ok (.iastore, 1) := by decide +kernel
theorem dX10_set_87 : decode cX10_set 87 = .ok (.bipush (-100), 2) := by decide +kernel
theorem dX10_set_89 : decode cX10_set 89 = .ok (.iload 8, 2) := by decide +kernel
theorem dX10_set_91 : decode cX10_set 91 = .ok (.isub, 1) := by decide +kernel
theorem dX10_set_92 : decode cX10_set 92 = .ok (.ireturn, 1) := by decide +kernel
theorem dX10_set_93 : decode cX10_set 93 = .ok (.iconst 1, 1) := by decide +kernel
theorem dX10_set_94 : decode cX10_set 94 = .ok (.ireturn, 1) := by decide +kernel
set_option maxRecDepth 20000 in
theorem ggX10_would_X10_maySet : GoodIn wsX10_would wsX10_maySet := goodIn_r _ [7, 8, 9, 6, 10, 11, 12, 13, 14, 15, 16, 17, 18, 19] (by decide +kernel) (by decide +kernel)
set_option maxRecDepth 20000 in
theorem gX10_would_X10_maySet : GoodIn wsX10_would (wsV RX10 144 RX10 yX10_maySet wsX10_maySet) := goodIn_app (goodIn_of _ (by decide +kernel)) ggX10_would_X10_maySet
set_option maxRecDepth 20000 in
theorem ggX10_would_X10_brokenBy : GoodIn wsX10_would wsX10_brokenBy := goodIn_r _ [23, 24, 25, 26, 27, 28, 6, 29, 30, 31, 32, 33, 1, 2, 34, 35, 36, 37, 38, 39, 40, 41, 42, 43, 44, 45, 46, 47, 48, 49, 50, 51, 52, 53, 54, 55, 56, 57, 58, 59, 60, 61, 62, 63, 64, 65, 66, 67, 68, 69, 70, 71, 72, 73, 74, 75, 76, 77, 78, 79, 80, 81, 82, 83, 84, 85, 86] (by decide +kernel) (by decide +kernel)
set_option maxRecDepth 20000 in
theorem gX10_would_X10_brokenBy : GoodIn wsX10_would (wsV RX10 148 RX10 yX10_brokenBy wsX10_brokenBy) := goodIn_app (goodIn_of _ (by decide +kernel)) ggX10_would_X10_brokenBy
theorem dX10_would_0 : decode cX10_would 0 = .ok (.aload_n 0, 1) := by decide +kernel
theorem dX10_would_1 : decode cX10_would 1 = .ok (.iload_n 1, 1) := by decide +kernel
theorem dX10_would_2 : decode cX10_would 2 = .ok (.iload_n 2, 1) := by decide +kernel
theorem dX10_would_3 : decode cX10_would 3 = .ok (.iload_n 3, 1) := by decide +kernel
theorem dX10_would_4 : decode cX10_would 4 = .ok (.iload 4, 2) := by decide +kernel
theorem dX10_would_6 : decode cX10_would 6 = .ok (.invokevirtual 144, 3) := by decide +kernel
theorem dX10_would_9 : decode cX10_would 9 = .ok (.ifCond .ne 5, 3) := by decide +kernel
theorem dX10_would_12 : decode cX10_would 12 = .ok (.iconst (-1), 1) := by decide +kernel
theorem dX10_would_13 : decode cX10_would 13 = .ok (.ireturn, 1) := by decide +kernel
theorem dX10_would_14 : decode cX10_would 14 = .ok (.bipush 8, 2) := by decide +kernel
theorem dX10_would_16 : decode cX10_would 16 = .ok (.iload_n 1, 1) := by decide +kernel
theorem dX10_would_17 : decode cX10_would 17 = .ok (.imul, 1) := by decide +kernel
theorem dX10_would_18 : decode cX10_would 18 = .ok (.iload_n 2, 1) := by decide +kernel
theorem dX10_would_19 : decode cX10_would 19 = .ok (.iadd, 1) := by decide +kernel
theorem dX10_would_20 : decode cX10_would 20 = .ok (.istore 5, 2) := by decide +kernel
theorem dX10_would_22 : decode cX10_would 22 = .ok (.aload_n 0, 1) := by decide +kernel
theorem dX10_would_23 : decode cX10_would 23 = .ok (.getfield 7, 3) := by decide +kernel
theorem dX10_would_26 : decode cX10_would 26 = .ok (.iload 5, 2) := by decide +kernel
theorem dX10_would_28 : decode cX10_would 28 = .ok (.iaload, 1) := by decide +kernel
theorem dX10_would_29 : decode cX10_would 29 = .ok (.istore 6, 2) := by decide +kernel
theorem dX10_would_31 : decode cX10_would 31 = .ok (.aload_n 0, 1) := by decide +kernel
theorem dX10_would_32 : decode cX10_would 32 = .ok (.getfield 13, 3) := by decide +kernel
theorem dX10_would_35 : decode cX10_would 35 = .ok (.iload 5, 2) := by decide +kernel
theorem dX10_would_37 : decode cX10_would 37 = .ok (.iaload, 1) := by decide +kernel
theorem dX10_would_38 : decode cX10_would 38 = .ok (.istore 7, 2) := by decide +kernel
theorem dX10_would_40 : decode cX10_would 40 = .ok (.aload_n 0, 1) := by decide +kernel
theorem dX10_would_41 : decode cX10_would 41 = .ok (.getfield 7, 3) := by decide +kernel
theorem dX10_would_44 : decode cX10_would 44 = .ok (.iload 5, 2) := by decide +kernel
theorem dX10_would_46 : decode cX10_would 46 = .ok (.iload_n 3, 1) := by decide +kernel
theorem dX10_would_47 : decode cX10_would 47 = .ok (.iastore, 1) := by decide +kernel
theorem dX10_would_48 : decode cX10_would 48 = .ok (.aload_n 0, 1) := by decide +kernel
theorem dX10_would_49 : decode cX10_would 49 = .ok (.getfield 13, 3) := by decide +kernel
theorem dX10_would_52 : decode cX10_would 52 = .ok (.iload 5, 2) := by decide +kernel
theorem dX10_would_54 : decode cX10_would 54 = .ok (.iload 4, 2) := by decide +kernel
theorem dX10_would_56 : decode cX10_would 56 = .ok (.iastore, 1) := by decide +kernel
theorem dX10_would_57 : decode cX10_would 57 = .ok (.aload_n 0, 1) := by decide +kernel
theorem dX10_would_58 : decode cX10_would 58 = .ok (.iload_n 1, 1) := by decide +kernel
theorem dX10_would_59 : decode cX10_would 59 = .ok (.invokevirtual 148, 3) := by decide +kernel
theorem dX10_would_62 : decode cX10_would 62 = .ok (.istore 8, 2) := by decide +kernel
theorem dX10_would_64 : decode cX10_would 64 = .ok (.aload_n 0, 1) := by decide +kernel
theorem dX10_would_65 : decode cX10_would 65 = .ok (.getfield 7, 3) := by decide +kernel
theorem dX10_would_68 : decode cX10_would 68 = .ok (.iload 5, 2) := by decide +kernel
theorem dX10_would_70 : decode cX10_would 70 = .ok (.iload 6, 2) := by decide +kernel
theorem dX10_would_72 : decode cX10_would 72 = .ok (.iastore, 1) := by decide +kernel
theorem dX10_would_73 : decode cX10_would 73 = .ok (.aload_n 0, 1) := by decide +kernel
theorem dX10_would_74 : decode cX10_would 74 = .ok (.getfield 13, 3) := by decide +kernel
theorem dX10_would_77 : decode cX10_would 77 = .ok (.iload 5, 2) := by decide +kernel
theorem dX10_would_79 : decode cX10_would 79 = .ok (.iload 7, 2) := by decide +kernel
theorem dX10_would_81 : decode cX10_would 81 = .ok (.iastore, 1) := by decide +kernel
theorem dX10_would_82 : decode cX10_would 82 = .ok (.iconst 1, 1) := by decide +kernel
theorem dX10_would_83 : decode cX10_would 83 = .ok (.iload 8, 2) := by decide +kernel
theorem dX10_would_85 : decode cX10_would 85 = .ok (.iadd, 1) := by decide +kernel
theorem dX10_would_86 : decode cX10_would 86 = .ok (.ireturn, 1) := by decide +kernel
set_option maxRecDepth 20000 in
theorem ggX10_turn_X10_isSection : GoodIn wsX10_turn wsX10_isSection := goodIn_r _ [6, 7, 8, 5, 9] (by decide +kernel) (by decide +kernel)
set_option maxRecDepth 20000 in
theorem gX10_turn_X10_isSection : GoodIn wsX10_turn (va_wsS RX10 134 yX10_isSection wsX10_isSection) := goodIn_app (goodIn_of _ (by decide +kernel)) ggX10_turn_X10_isSection
set_option maxRecDepth 20000 in
theorem ggX10_turn_X10_in : GoodIn wsX10_turn wsX10_in := goodIn_r _ [9] (by decide +kernel) (by decide +kernel)
set_option maxRecDepth 20000 in
theorem gX10_turn_X10_in : GoodIn wsX10_turn (va_wsS RX10 117 yX10_in wsX10_in) := goodIn_app (goodIn_of _ (by decide +kernel)) ggX10_turn_X10_in
theorem dX10_turn_0 : decode cX10_turn 0 = .ok (.iload_n 1, 1) := by decide +kernel
theorem dX10_turn_1 : decode cX10_turn 1 = .ok (.invokestatic 134, 3) := by decide +kernel
theorem dX10_turn_4 : decode cX10_turn 4 = .ok (.ifCond .eq 16, 3) := by decide +kernel
theorem dX10_turn_7 : decode cX10_turn 7 = .ok (.iload_n 2, 1) := by decide +kernel
theorem dX10_turn_8 : decode cX10_turn 8 = .ok (.sipush (-359), 3) := by decide +kernel
theorem dX10_turn_11 : decode cX10_turn 11 = .ok (.sipush 359, 3) := by decide +kernel
theorem dX10_turn_14 : decode cX10_turn 14 = .ok (.invokestatic 117, 3) := by decide +kernel
theorem dX10_turn_17 : decode cX10_turn 17 = .ok (.ifCond .ne 5, 3) := by decide +kernel
end
section
theorem dX10_turn_20 : decode cX10_turn 20 = .ok (.iconst (-1), 1) := by decide +kernel
theorem dX10_turn_21 : decode cX10_turn 21 = .ok (.ireturn, 1) := by decide +kernel
theorem dX10_turn_22 : decode cX10_turn 22 = .ok (.iconst 0, 1) := by decide +kernel
theorem dX10_turn_23 : decode cX10_turn 23 = .ok (.istore_n 3, 1) := by decide +kernel
theorem dX10_turn_24 : decode cX10_turn 24 = .ok (.iload_n 3, 1) := by decide +kernel
theorem dX10_turn_25 : decode cX10_turn 25 = .ok (.bipush 8, 2) := by decide +kernel
theorem dX10_turn_27 : decode cX10_turn 27 = .ok (.if_icmp .ge 73, 3) := by decide +kernel
theorem dX10_turn_30 : decode cX10_turn 30 = .ok (.aload_n 0, 1) := by decide +kernel
theorem dX10_turn_31 : decode cX10_turn 31 = .ok (.getfield 7, 3) := by decide +kernel
theorem dX10_turn_34 : decode cX10_turn 34 = .ok (.bipush 8, 2) := by decide +kernel
theorem dX10_turn_36 : decode cX10_turn 36 = .ok (.iload_n 1, 1) := by decide +kernel
theorem dX10_turn_37 : decode cX10_turn 37 = .ok (.imul, 1) := by decide +kernel
theorem dX10_turn_38 : decode cX10_turn 38 = .ok (.iload_n 3, 1) := by decide +kernel
theorem dX10_turn_39 : decode cX10_turn 39 = .ok (.iadd, 1) := by decide +kernel
theorem dX10_turn_40 : decode cX10_turn 40 = .ok (.aload_n 0, 1) := by decide +kernel
theorem dX10_turn_41 : decode cX10_turn 41 = .ok (.getfield 7, 3) := by decide +kernel
theorem dX10_turn_44 : decode cX10_turn 44 = .ok (.bipush 8, 2) := by decide +kernel
theorem dX10_turn_46 : decode cX10_turn 46 = .ok (.iload_n 1, 1) := by decide +kernel
theorem dX10_turn_47 : decode cX10_turn 47 = .ok (.imul, 1) := by decide +kernel
theorem dX10_turn_48 : decode cX10_turn 48 = .ok (.iload_n 3, 1) := by decide +kernel
theorem dX10_turn_49 : decode cX10_turn 49 = .ok (.iadd, 1) := by decide +kernel
theorem dX10_turn_50 : decode cX10_turn 50 = .ok (.iaload, 1) := by decide +kernel
theorem dX10_turn_51 : decode cX10_turn 51 = .ok (.iload_n 2, 1) := by decide +kernel
theorem dX10_turn_52 : decode cX10_turn 52 = .ok (.iadd, 1) := by decide +kernel
theorem dX10_turn_53 : decode cX10_turn 53 = .ok (.sipush 360, 3) := by decide +kernel
theorem dX10_turn_56 : decode cX10_turn 56 = .ok (.iadd, 1) := by decide +kernel
theorem dX10_turn_57 : decode cX10_turn 57 = .ok (.sipush 360, 3) := by decide +kernel
theorem dX10_turn_60 : decode cX10_turn 60 = .ok (.irem, 1) := by decide +kernel
theorem dX10_turn_61 : decode cX10_turn 61 = .ok (.iastore, 1) := by decide +kernel
theorem dX10_turn_62 : decode cX10_turn 62 = .ok (.aload_n 0, 1) := by decide +kernel
theorem dX10_turn_63 : decode cX10_turn 63 = .ok (.getfield 13, 3) := by decide +kernel
theorem dX10_turn_66 : decode cX10_turn 66 = .ok (.bipush 8, 2) := by decide +kernel
theorem dX10_turn_68 : decode cX10_turn 68 = .ok (.iload_n 1, 1) := by decide +kernel
theorem dX10_turn_69 : decode cX10_turn 69 = .ok (.imul, 1) := by decide +kernel
theorem dX10_turn_70 : decode cX10_turn 70 = .ok (.iload_n 3, 1) := by decide +kernel
theorem dX10_turn_71 : decode cX10_turn 71 = .ok (.iadd, 1) := by decide +kernel
theorem dX10_turn_72 : decode cX10_turn 72 = .ok (.aload_n 0, 1) := by decide +kernel
theorem dX10_turn_73 : decode cX10_turn 73 = .ok (.getfield 13, 3) := by decide +kernel
theorem dX10_turn_76 : decode cX10_turn 76 = .ok (.bipush 8, 2) := by decide +kernel
theorem dX10_turn_78 : decode cX10_turn 78 = .ok (.iload_n 1, 1) := by decide +kernel
theorem dX10_turn_79 : decode cX10_turn 79 = .ok (.imul, 1) := by decide +kernel
theorem dX10_turn_80 : decode cX10_turn 80 = .ok (.iload_n 3, 1) := by decide +kernel
theorem dX10_turn_81 : decode cX10_turn 81 = .ok (.iadd, 1) := by decide +kernel
theorem dX10_turn_82 : decode cX10_turn 82 = .ok (.iaload, 1) := by decide +kernel
theorem dX10_turn_83 : decode cX10_turn 83 = .ok (.iload_n 2, 1) := by decide +kernel
theorem dX10_turn_84 : decode cX10_turn 84 = .ok (.iadd, 1) := by decide +kernel
theorem dX10_turn_85 : decode cX10_turn 85 = .ok (.sipush 360, 3) := by decide +kernel
theorem dX10_turn_88 : decode cX10_turn 88 = .ok (.iadd, 1) := by decide +kernel
theorem dX10_turn_89 : decode cX10_turn 89 = .ok (.sipush 360, 3) := by decide +kernel
theorem dX10_turn_92 : decode cX10_turn 92 = .ok (.irem, 1) := by decide +kernel
theorem dX10_turn_93 : decode cX10_turn 93 = .ok (.iastore, 1) := by decide +kernel
theorem dX10_turn_94 : decode cX10_turn 94 = .ok (.iinc 3 1, 3) := by decide +kernel
theorem dX10_turn_97 : decode cX10_turn 97 = .ok (.goto (-73), 3) := by decide +kernel
theorem dX10_turn_100 : decode cX10_turn 100 = .ok (.iconst 1, 1) := by decide +kernel
theorem dX10_turn_101 : decode cX10_turn 101 = .ok (.ireturn, 1) := by decide +kernel
set_option maxRecDepth 20000 in
theorem ggX10_copy_X10_isSection : GoodIn wsX10_copy wsX10_isSection := goodIn_r _ [6, 7, 8, 5, 9] (by decide +kernel) (by decide +kernel)
set_option maxRecDepth 20000 in
theorem gX10_copy_X10_isSection : GoodIn wsX10_copy (va_wsS RX10 134 yX10_isSection wsX10_isSection) := goodIn_app (goodIn_of _ (by decide +kernel)) ggX10_copy_X10_isSection
theorem dX10_copy_0 : decode cX10_copy 0 = .ok (.iload_n 1, 1) := by decide +kernel
theorem dX10_copy_1 : decode cX10_copy 1 = .ok (.invokestatic 134, 3) := by decide +kernel
theorem dX10_copy_4 : decode cX10_copy 4 = .ok (.ifCond .eq 10, 3) := by decide +kernel
theorem dX10_copy_7 : decode cX10_copy 7 = .ok (.iload_n 2, 1) := by decide +kernel
theorem dX10_copy_8 : decode cX10_copy 8 = .ok (.invokestatic 134, 3) := by decide +kernel
theorem dX10_copy_11 : decode cX10_copy 11 = .ok (.ifCond .ne 5, 3) := by decide +kernel
theorem dX10_copy_14 : decode cX10_copy 14 = .ok (.iconst (-1), 1) := by decide +kernel
theorem dX10_copy_15 : decode cX10_copy 15 = .ok (.ireturn, 1) := by decide +kernel
theorem dX10_copy_16 : decode cX10_copy 16 = .ok (.iconst 0, 1) := by decide +kernel
theorem dX10_copy_17 : decode cX10_copy 17 = .ok (.istore_n 3, 1) := by decide +kernel
theorem dX10_copy_18 : decode cX10_copy 18 = .ok (.iload_n 3, 1) := by decide +kernel
theorem dX10_copy_19 : decode cX10_copy 19 = .ok (.bipush 8, 2) := by decide +kernel
theorem dX10_copy_21 : decode cX10_copy 21 = .ok (.if_icmp .ge 53, 3) := by decide +kernel
theorem dX10_copy_24 : decode cX10_copy 24 = .ok (.aload_n 0, 1) := by decide +kernel
theorem dX10_copy_25 : decode cX10_copy 25 = .ok (.getfield 7, 3) := by decide +kernel
theorem dX10_copy_28 : decode cX10_copy 28 = .ok (.bipush 8, 2) := by decide +kernel
theorem dX10_copy_30 : decode cX10_copy 30 = .ok (.iload_n 1, 1) := by decide +kernel
theorem dX10_copy_31 : decode cX10_copy 31 = .ok (.imul, 1) := by decide +kernel
theorem dX10_copy_32 : decode cX10_copy 32 = .ok (.iload_n 3, 1) := by decide +kernel
theorem dX10_copy_33 : decode cX10_copy 33 = .ok (.iadd, 1) := by decide +kernel
theorem dX10_copy_34 : decode cX10_copy 34 = .ok (.aload_n 0, 1) := by decide +kernel
theorem dX10_copy_35 : decode cX10_copy 35 = .ok (.getfield 7, 3) := by decide +kernel
theorem dX10_copy_38 : decode cX10_copy 38 = .ok (.bipush 8, 2) := by decide +kernel
theorem dX10_copy_40 : decode cX10_copy 40 = .ok (.iload_n 2, 1) := by decide +kernel
theorem dX10_copy_41 : decode cX10_copy 41 = .ok (.imul, 1) := by decide +kernel
theorem dX10_copy_42 : decode cX10_copy 42 = .ok (.iload_n 3, 1) := by decide +kernel
theorem dX10_copy_43 : decode cX10_copy 43 = .ok (.iadd, 1) := by decide +kernel
theorem dX10_copy_44 : decode cX10_copy 44 = .ok (.iaload, 1) := by decide +kernel
theorem dX10_copy_45 : decode cX10_copy 45 = .ok (.iastore, 1) := by decide +kernel
theorem dX10_copy_46 : decode cX10_copy 46 = .ok (.aload_n 0, 1) := by decide +kernel
theorem dX10_copy_47 : decode cX10_copy 47 = .ok (.getfield 13, 3) := by decide +kernel
theorem dX10_copy_50 : decode cX10_copy 50 = .ok (.bipush 8, 2) := by decide +kernel
theorem dX10_copy_52 : decode cX10_copy 52 = .ok (.iload_n 1, 1) := by decide +kernel
theorem dX10_copy_53 : decode cX10_copy 53 = .ok (.imul, 1) := by decide +kernel
theorem dX10_copy_54 : decode cX10_copy 54 = .ok (.iload_n 3, 1) := by decide +kernel
theorem dX10_copy_55 : decode cX10_copy 55 = .ok (.iadd, 1) := by decide +kernel
theorem dX10_copy_56 : decode cX10_copy 56 = .ok (.aload_n 0, 1) := by decide +kernel
theorem dX10_copy_57 : decode cX10_copy 57 = .ok (.getfield 13, 3) := by decide +kernel
theorem dX10_copy_60 : decode cX10_copy 60 = .ok (.bipush 8, 2) := by decide +kernel
theorem dX10_copy_62 : decode cX10_copy 62 = .ok (.iload_n 2, 1) := by decide +kernel
theorem dX10_copy_63 : decode cX10_copy 63 = .ok (.imul, 1) := by decide +kernel
theorem dX10_copy_64 : decode cX10_copy 64 = .ok (.iload_n 3, 1) := by decide +kernel
theorem dX10_copy_65 : decode cX10_copy 65 = .ok (.iadd, 1) := by decide +kernel
theorem dX10_copy_66 : decode cX10_copy 66 = .ok (.iaload, 1) := by decide +kernel
theorem dX10_copy_67 : decode cX10_copy 67 = .ok (.iastore, 1) := by decide +kernel
theorem dX10_copy_68 : decode cX10_copy 68 = .ok (.iinc 3 1, 3) := by decide +kernel
theorem dX10_copy_71 : decode cX10_copy 71 = .ok (.goto (-53), 3) := by decide +kernel
theorem dX10_copy_74 : decode cX10_copy 74 = .ok (.iconst 1, 1) := by decide +kernel
theorem dX10_copy_75 : decode cX10_copy 75 = .ok (.ireturn, 1) := by decide +kernel
set_option maxRecDepth 20000 in
theorem ggX10_law_X10_in : GoodIn wsX10_law wsX10_in := goodIn_r _ [11] (by decide +kernel) (by decide +kernel)
set_option maxRecDepth 20000 in
theorem gX10_law_X10_in : GoodIn wsX10_law (va_wsS RX10 117 yX10_in wsX10_in) := goodIn_app (goodIn_of _ (by decide +kernel)) ggX10_law_X10_in
set_option maxRecDepth 20000 in
theorem ggX10_law_X10_isAct : GoodIn wsX10_law wsX10_isAct := goodIn_r _ [14, 8, 9, 10, 11] (by decide +kernel) (by decide +kernel)
set_option maxRecDepth 20000 in
theorem gX10_law_X10_isAct : GoodIn wsX10_law (va_wsS RX10 138 yX10_isAct wsX10_isAct) := goodIn_app (goodIn_of _ (by decide +kernel)) ggX10_law_X10_isAct
set_option maxRecDepth 20000 in
theorem ggX10_law_X10_keeps : GoodIn wsX10_law wsX10_keeps := goodIn_r _ [18, 4, 5, 6, 3, 19, 20, 21, 22, 23, 10, 24, 25, 26, 27, 28, 29, 30, 31, 32, 33, 34, 35, 36, 37, 38, 39, 40, 41, 42, 43, 44, 45, 46, 47, 48, 49, 50, 51, 52, 53, 54, 55, 56, 57, 58, 59, 60, 61, 62, 63, 64, 65, 66, 67, 68, 69, 70, 71, 72, 73] (by decide +kernel) (by decide +kernel)
set_option maxRecDepth 20000 in
theorem gX10_law_X10_keeps : GoodIn wsX10_law (wsV RX10 131 RX10 yX10_keeps wsX10_keeps) := goodIn_app (goodIn_of _ (by decide +kernel)) ggX10_law_X10_keeps
theorem dX10_law_0 : decode cX10_law 0 = .ok (.iload_n 1, 1) := by decide +kernel
theorem dX10_law_1 : decode cX10_law 1 = .ok (.iconst 0, 1) := by decide +kernel
theorem dX10_law_2 : decode cX10_law 2 = .ok (.iconst 3, 1) := by decide +kernel
theorem dX10_law_3 : decode cX10_law 3 = .ok (.invokestatic 117, 3) := by decide +kernel
theorem dX10_law_6 : decode cX10_law 6 = .ok (.ifCond .eq 48, 3) := by decide +kernel
theorem dX10_law_9 : decode cX10_law 9 = .ok (.iload_n 2, 1) := by decide +kernel
theorem dX10_law_10 : decode cX10_law 10 = .ok (.invokestatic 138, 3) := by decide +kernel
theorem dX10_law_13 : decode cX10_law 13 = .ok (.ifCond .eq 41, 3) := by decide +kernel
theorem dX10_law_16 : decode cX10_law 16 = .ok (.iload_n 3, 1) := by decide +kernel
theorem dX10_law_17 : decode cX10_law 17 = .ok (.invokestatic 138, 3) := by decide +kernel
theorem dX10_law_20 : decode cX10_law 20 = .ok (.ifCond .eq 34, 3) := by decide +kernel
theorem dX10_law_23 : decode cX10_law 23 = .ok (.iload_n 2, 1) := by decide +kernel
theorem dX10_law_24 : decode cX10_law 24 = .ok (.iload_n 3, 1) := by decide +kernel
theorem dX10_law_25 : decode cX10_law 25 = .ok (.if_icmp .ne 8, 3) := by decide +kernel
theorem dX10_law_28 : decode cX10_law 28 = .ok (.iload_n 1, 1) := by decide +kernel
theorem dX10_law_29 : decode cX10_law 29 = .ok (.iconst 2, 1) := by decide +kernel
theorem dX10_law_30 : decode cX10_law 30 = .ok (.if_icmp .ne 24, 3) := by decide +kernel
theorem dX10_law_33 : decode cX10_law 33 = .ok (.iload 4, 2) := by decide +kernel
theorem dX10_law_35 : decode cX10_law 35 = .ok (.iconst 0, 1) := by decide +kernel
theorem dX10_law_36 : decode cX10_law 36 = .ok (.iload_n 1, 1) := by decide +kernel
theorem dX10_law_37 : decode cX10_law 37 = .ok (.ifCond .ne 9, 3) := by decide +kernel
theorem dX10_law_40 : decode cX10_law 40 = .ok (.sipush 359, 3) := by decide +kernel
theorem dX10_law_43 : decode cX10_law 43 = .ok (.goto 5, 3) := by decide +kernel
theorem dX10_law_46 : decode cX10_law 46 = .ok (.ldc 152, 2) := by decide +kernel
theorem dX10_law_48 : decode cX10_law 48 = .ok (.invokestatic 117, 3) := by decide +kernel
theorem dX10_law_51 : decode cX10_law 51 = .ok (.ifCond .ne 5, 3) := by decide +kernel
theorem dX10_law_54 : decode cX10_law 54 = .ok (.iconst (-1), 1) := by decide +kernel
theorem dX10_law_55 : decode cX10_law 55 = .ok (.ireturn, 1) := by decide +kernel
theorem dX10_law_56 : decode cX10_law 56 = .ok (.aload_n 0, 1) := by decide +kernel
theorem dX10_law_57 : decode cX10_law 57 = .ok (.getfield 128, 3) := by decide +kernel
theorem dX10_law_60 : decode cX10_law 60 = .ok (.bipush 16, 2) := by decide +kernel
theorem dX10_law_62 : decode cX10_law 62 = .ok (.if_icmp .ne 6, 3) := by decide +kernel
theorem dX10_law_65 : decode cX10_law 65 = .ok (.bipush (-2), 2) := by decide +kernel
theorem dX10_law_67 : decode cX10_law 67 = .ok (.ireturn, 1) := by decide +kernel
theorem dX10_law_68 : decode cX10_law 68 = .ok (.aload_n 0, 1) := by decide +kernel
theorem dX10_law_69 : decode cX10_law 69 = .ok (.getfield 16, 3) := by decide +kernel
theorem dX10_law_72 : decode cX10_law 72 = .ok (.aload_n 0, 1) := by decide +kernel
theorem dX10_law_73 : decode cX10_law 73 = .ok (.getfield 128, 3) := by decide +kernel
theorem dX10_law_76 : decode cX10_law 76 = .ok (.iload_n 1, 1) := by decide +kernel
theorem dX10_law_77 : decode cX10_law 77 = .ok (.iastore, 1) := by decide +kernel
theorem dX10_law_78 : decode cX10_law 78 = .ok (.aload_n 0, 1) := by decide +kernel
theorem dX10_law_79 : decode cX10_law 79 = .ok (.getfield 19, 3) := by decide +kernel
theorem dX10_law_82 : decode cX10_law 82 = .ok (.aload_n 0, 1) := by decide +kernel
theorem dX10_law_83 : decode cX10_law 83 = .ok (.getfield 128, 3) := by decide +kernel
theorem dX10_law_86 : decode cX10_law 86 = .ok (.iload_n 2, 1) := by decide +kernel
theorem dX10_law_87 : decode cX10_law 87 = .ok (.iastore, 1) := by decide +kernel
theorem dX10_law_88 : decode cX10_law 88 = .ok (.aload_n 0, 1) := by decide +kernel
theorem dX10_law_89 : decode cX10_law 89 = .ok (.getfield 22, 3) := by decide +kernel
theorem dX10_law_92 : decode cX10_law 92 = .ok (.aload_n 0, 1) := by decide +kernel
theorem dX10_law_93 : decode cX10_law 93 = .ok (.getfield 128, 3) := by decide +kernel
theorem dX10_law_96 : decode cX10_law 96 = .ok (.iload_n 3, 1) := by decide +kernel
theorem dX10_law_97 : decode cX10_law 97 = .ok (.iastore, 1) := by decide +kernel
theorem dX10_law_98 : decode cX10_law 98 = .ok (.aload_n 0, 1) := by decide +kernel
theorem dX10_law_99 : decode cX10_law 99 = .ok (.getfield 25, 3) := by decide +kernel
theorem dX10_law_102 : decode cX10_law 102 = .ok (.aload_n 0, 1) := by decide +kernel
theorem dX10_law_103 : decode cX10_law 103 = .ok (.getfield 128, 3) := by decide +kernel
theorem dX10_law_106 : decode cX10_law 106 = .ok (.iload 4, 2) := by decide +kernel
theorem dX10_law_108 : decode cX10_law 108 = .ok (.iastore, 1) := by decide +kernel
theorem dX10_law_109 : decode cX10_law 109 = .ok (.iconst 0, 1) := by decide +kernel
theorem dX10_law_110 : decode cX10_law 110 = .ok (.istore 5, 2) := by decide +kernel
theorem dX10_law_112 : decode cX10_law 112 = .ok (.iload 5, 2) := by decide +kernel
theorem dX10_law_114 : decode cX10_law 114 = .ok (.bipush 6, 2) := by decide +kernel
theorem dX10_law_116 : decode cX10_law 116 = .ok (.if_icmp .ge 34, 3) := by decide +kernel
theorem dX10_law_119 : decode cX10_law 119 = .ok (.aload_n 0, 1) := by decide +kernel
theorem dX10_law_120 : decode cX10_law 120 = .ok (.iload 5, 2) := by decide +kernel
theorem dX10_law_122 : decode cX10_law 122 = .ok (.aload_n 0, 1) := by decide +kernel
theorem dX10_law_123 : decode cX10_law 123 = .ok (.getfield 128, 3) := by decide +kernel
theorem dX10_law_126 : decode cX10_law 126 = .ok (.aload_n 0, 1) := by decide +kernel
theorem dX10_law_127 : decode cX10_law 127 = .ok (.getfield 28, 3) := by decide +kernel
theorem dX10_law_130 : decode cX10_law 130 = .ok (.invokevirtual 131, 3) := by decide +kernel
theorem dX10_law_133 : decode cX10_law 133 = .ok (.ifCond .ne 11, 3) := by decide +kernel
theorem dX10_law_136 : decode cX10_law 136 = .ok (.bipush (-100), 2) := by decide +kernel
theorem dX10_law_138 : decode cX10_law 138 = .ok (.aload_n 0, 1) := by decide +kernel
theorem dX10_law_139 : decode cX10_law 139 = .ok (.getfield 128, 3) := by decide +kernel
theorem dX10_law_142 : decode cX10_law 142 = .ok (.isub, 1) := by decide +kernel
theorem dX10_law_143 : decode cX10_law 143 = .ok (.ireturn, 1) := by decide +kernel
theorem dX10_law_144 : decode cX10_law 144 = .ok (.iinc 5 1, 3) := by decide +kernel
theorem dX10_law_147 : decode cX10_law 147 = .ok (.goto (-35), 3) := by decide +kernel
theorem dX10_law_150 : decode cX10_law 150 = .ok (.aload_n 0, 1) := by decide +kernel
theorem dX10_law_151 : decode cX10_law 151 = .ok (.dup, 1) := by decide +kernel
theorem dX10_law_152 : decode cX10_law 152 = .ok (.getfield 128, 3) := by decide +kernel
theorem dX10_law_155 : decode cX10_law 155 = .ok (.iconst 1, 1) := by decide +kernel
theorem dX10_law_156 : decode cX10_law 156 = .ok (.iadd, 1) := by decide +kernel
theorem dX10_law_157 : decode cX10_law 157 = .ok (.putfield 128, 3) := by decide +kernel
theorem dX10_law_160 : decode cX10_law 160 = .ok (.aload_n 0, 1) := by decide +kernel
theorem dX10_law_161 : decode cX10_law 161 = .ok (.getfield 128, 3) := by decide +kernel
theorem dX10_law_164 : decode cX10_law 164 = .ok (.iconst 1, 1) := by decide +kernel
theorem dX10_law_165 : decode cX10_law 165 = .ok (.isub, 1) := by decide +kernel
theorem dX10_law_166 : decode cX10_law 166 = .ok (.ireturn, 1) := by decide +kernel
theorem dX10_repeal_0 : decode cX10_repeal 0 = .ok (.aload_n 0, 1) := by decide +kernel
theorem dX10_repeal_1 : decode cX10_repeal 1 = .ok (.getfield 128, 3) := by decide +kernel
theorem dX10_repeal_4 : decode cX10_repeal 4 = .ok (.ifCond .ne 6, 3) := by decide +kernel
theorem dX10_repeal_7 : decode cX10_repeal 7 = .ok (.bipush (-4), 2) := by decide +kernel
theorem dX10_repeal_9 : decode cX10_repeal 9 = .ok (.ireturn, 1) := by decide +kernel
theorem dX10_repeal_10 : decode cX10_repeal 10 = .ok (.aload_n 0, 1) := by decide +kernel
theorem dX10_repeal_11 : decode cX10_repeal 11 = .ok (.dup, 1) := by decide +kernel
theorem dX10_repeal_12 : decode cX10_repeal 12 = .ok (.getfield 128, 3) := by decide +kernel
theorem dX10_repeal_15 : decode cX10_repeal 15 = .ok (.iconst 1, 1) := by decide +kernel
theorem dX10_repeal_16 : decode cX10_repeal 16 = .ok (.isub, 1) := by decide +kernel
theorem dX10_repeal_17 : decode cX10_repeal 17 = .ok (.putfield 128, 3) := by decide +kernel
theorem dX10_repeal_20 : decode cX10_repeal 20 = .ok (.aload_n 0, 1) := by decide +kernel
theorem dX10_repeal_21 : decode cX10_repeal 21 = .ok (.getfield 128, 3) := by decide +kernel
theorem dX10_repeal_24 : decode cX10_repeal 24 = .ok (.ireturn, 1) := by decide +kernel
set_option maxRecDepth 20000 in
theorem ggX10_pace_X10_in : GoodIn wsX10_pace wsX10_in := goodIn_r _ [5] (by decide +kernel) (by decide +kernel)
set_option maxRecDepth 20000 in
theorem gX10_pace_X10_in : GoodIn wsX10_pace (va_wsS RX10 117 yX10_in wsX10_in) := goodIn_app (goodIn_of _ (by decide +kernel)) ggX10_pace_X10_in
set_option maxRecDepth 20000 in
theorem ggX10_pace_X10_brokenAt : GoodIn wsX10_pace wsX10_brokenAt := goodIn_r _ [9, 10, 11, 12, 13, 4, 14, 15, 16, 17, 18, 19, 20, 21, 22, 23, 24, 25, 26, 27, 28, 29, 30, 31, 32, 33, 34, 35, 36, 37, 38, 39, 40, 41, 42, 43, 44, 45, 46, 47, 48, 49, 50, 51, 52, 53, 54, 55, 56, 57, 58, 59, 60, 61, 62, 63, 64, 65, 66, 67, 68, 69, 70, 71, 72, 73] (by decide +kernel) (by decide +kernel)
set_option maxRecDepth 20000 in
theorem gX10_pace_X10_brokenAt : GoodIn wsX10_pace (wsV RX10 153 RX10 yX10_brokenAt wsX10_brokenAt) := goodIn_app (goodIn_of _ (by decide +kernel)) ggX10_pace_X10_brokenAt
theorem dX10_pace_0 : decode cX10_pace 0 = .ok (.iload_n 1, 1) := by decide +kernel
theorem dX10_pace_1 : decode cX10_pace 1 = .ok (.iconst 1, 1) := by decide +kernel
theorem dX10_pace_2 : decode cX10_pace 2 = .ok (.bipush 60, 2) := by decide +kernel
theorem dX10_pace_4 : decode cX10_pace 4 = .ok (.invokestatic 117, 3) := by decide +kernel
theorem dX10_pace_7 : decode cX10_pace 7 = .ok (.ifCond .ne 5, 3) := by decide +kernel
theorem dX10_pace_10 : decode cX10_pace 10 = .ok (.iconst (-1), 1) := by decide +kernel
theorem dX10_pace_11 : decode cX10_pace 11 = .ok (.ireturn, 1) := by decide +kernel
theorem dX10_pace_12 : decode cX10_pace 12 = .ok (.aload_n 0, 1) := by decide +kernel
theorem dX10_pace_13 : decode cX10_pace 13 = .ok (.iload_n 1, 1) := by decide +kernel
theorem dX10_pace_14 : decode cX10_pace 14 = .ok (.invokevirtual 153, 3) := by decide +kernel
theorem dX10_pace_17 : decode cX10_pace 17 = .ok (.istore_n 2, 1) := by decide +kernel
theorem dX10_pace_18 : decode cX10_pace 18 = .ok (.iload_n 2, 1) := by decide +kernel
theorem dX10_pace_19 : decode cX10_pace 19 = .ok (.ifCond .lt 8, 3) := by decide +kernel
theorem dX10_pace_22 : decode cX10_pace 22 = .ok (.bipush (-100), 2) := by decide +kernel
theorem dX10_pace_24 : decode cX10_pace 24 = .ok (.iload_n 2, 1) := by decide +kernel
theorem dX10_pace_25 : decode cX10_pace 25 = .ok (.isub, 1) := by decide +kernel
theorem dX10_pace_26 : decode cX10_pace 26 = .ok (.ireturn, 1) := by decide +kernel
theorem dX10_pace_27 : decode cX10_pace 27 = .ok (.aload_n 0, 1) := by decide +kernel
theorem dX10_pace_28 : decode cX10_pace 28 = .ok (.getfield 28, 3) := by decide +kernel
theorem dX10_pace_31 : decode cX10_pace 31 = .ok (.istore_n 3, 1) := by decide +kernel
theorem dX10_pace_32 : decode cX10_pace 32 = .ok (.aload_n 0, 1) := by decide +kernel
theorem dX10_pace_33 : decode cX10_pace 33 = .ok (.iload_n 1, 1) := by decide +kernel
theorem dX10_pace_34 : decode cX10_pace 34 = .ok (.putfield 28, 3) := by decide +kernel
theorem dX10_pace_37 : decode cX10_pace 37 = .ok (.iload_n 3, 1) := by decide +kernel
theorem dX10_pace_38 : decode cX10_pace 38 = .ok (.ireturn, 1) := by decide +kernel
set_option maxRecDepth 20000 in
theorem ggX10_fastest_X10_brokenAt : GoodIn wsX10_fastest wsX10_brokenAt := goodIn_r _ [5, 6, 7, 8, 9, 4, 10, 11, 12, 13, 14, 15, 16, 17, 18, 19, 20, 21, 22, 23, 24, 25, 26, 27, 28, 29, 30, 31, 32, 33, 34, 35, 36, 37, 38, 39, 40, 41, 42, 43, 44, 45, 46, 47, 48, 49, 50, 51, 52, 53, 54, 55, 56, 57, 58, 59, 60, 61, 62, 63, 64, 65, 66, 67, 68, 69] (by decide +kernel) (by decide +kernel)
set_option maxRecDepth 20000 in
theorem gX10_fastest_X10_brokenAt : GoodIn wsX10_fastest (wsV RX10 153 RX10 yX10_brokenAt wsX10_brokenAt) := goodIn_app (goodIn_of _ (by decide +kernel)) ggX10_fastest_X10_brokenAt
theorem dX10_fastest_0 : decode cX10_fastest 0 = .ok (.bipush 60, 2) := by decide +kernel
theorem dX10_fastest_2 : decode cX10_fastest 2 = .ok (.istore_n 1, 1) := by decide +kernel
theorem dX10_fastest_3 : decode cX10_fastest 3 = .ok (.aload_n 0, 1) := by decide +kernel
theorem dX10_fastest_4 : decode cX10_fastest 4 = .ok (.iload_n 1, 1) := by decide +kernel
theorem dX10_fastest_5 : decode cX10_fastest 5 = .ok (.invokevirtual 153, 3) := by decide +kernel
theorem dX10_fastest_8 : decode cX10_fastest 8 = .ok (.ifCond .lt 9, 3) := by decide +kernel
theorem dX10_fastest_11 : decode cX10_fastest 11 = .ok (.iinc 1 (-1), 3) := by decide +kernel
theorem dX10_fastest_14 : decode cX10_fastest 14 = .ok (.goto (-11), 3) := by decide +kernel
theorem dX10_fastest_17 : decode cX10_fastest 17 = .ok (.iload_n 1, 1) := by decide +kernel
theorem dX10_fastest_18 : decode cX10_fastest 18 = .ok (.ireturn, 1) := by decide +kernel
set_option maxRecDepth 20000 in
theorem ggX10_act_X10_isSection : GoodIn wsX10_act wsX10_isSection := goodIn_r _ [6, 7, 8, 5, 9] (by decide +kernel) (by decide +kernel)
set_option maxRecDepth 20000 in
theorem gX10_act_X10_isSection : GoodIn wsX10_act (va_wsS RX10 134 yX10_isSection wsX10_isSection) := goodIn_app (goodIn_of _ (by decide +kernel)) ggX10_act_X10_isSection
set_option maxRecDepth 20000 in
theorem ggX10_act_X10_isAct : GoodIn wsX10_act wsX10_isAct := goodIn_r _ [12, 7, 8, 5, 9] (by decide +kernel) (by decide +kernel)
set_option maxRecDepth 20000 in
theorem gX10_act_X10_isAct : GoodIn wsX10_act (va_wsS RX10 138 yX10_isAct wsX10_isAct) := goodIn_app (goodIn_of _ (by decide +kernel)) ggX10_act_X10_isAct
set_option maxRecDepth 20000 in
theorem ggX10_act_X10_in : GoodIn wsX10_act wsX10_in := goodIn_r _ [9] (by decide +kernel) (by decide +kernel)
set_option maxRecDepth 20000 in
theorem gX10_act_X10_in : GoodIn wsX10_act (va_wsS RX10 117 yX10_in wsX10_in) := goodIn_app (goodIn_of _ (by decide +kernel)) ggX10_act_X10_in
set_option maxRecDepth 20000 in
theorem ggX10_act_X10_isDegree : GoodIn wsX10_act wsX10_isDegree := goodIn_r _ [15, 7, 8, 5, 9] (by decide +kernel) (by decide +kernel)
set_option maxRecDepth 20000 in
theorem gX10_act_X10_isDegree : GoodIn wsX10_act (va_wsS RX10 141 yX10_isDegree wsX10_isDegree) := goodIn_app (goodIn_of _ (by decide +kernel)) ggX10_act_X10_isDegree
set_option maxRecDepth 20000 in
theorem ggX10_act_X10_lengthOf : GoodIn wsX10_act wsX10_lengthOf := goodIn_r _ [19, 2, 1, 24, 25, 26, 27, 28, 29, 30, 31, 32, 33, 34, 35, 36, 37, 38, 39, 40, 41, 42, 43, 44, 45, 46, 47, 48, 49, 50, 51, 52, 53, 54, 55, 56, 57, 58, 59, 60, 61, 62, 63, 64, 65, 66, 67, 68] (by decide +kernel) (by decide +kernel)
set_option maxRecDepth 20000 in
theorem gX10_act_X10_lengthOf : GoodIn wsX10_act (wsV RX10 121 RX10 yX10_lengthOf wsX10_lengthOf) := goodIn_app (goodIn_of _ (by decide +kernel)) ggX10_act_X10_lengthOf
set_option maxRecDepth 20000 in
theorem ggX10_act_X10_isDone : GoodIn wsX10_act wsX10_isDone := goodIn_r _ [23, 1, 16, 17, 18, 5, 19, 2, 24, 25, 26, 27, 28, 29, 30, 31, 32, 33, 34, 35, 36, 37, 38, 39, 40, 41, 42, 43, 44, 45, 46, 47, 48, 49, 50, 51, 52, 53, 54, 55, 56, 57, 58, 59, 60, 61, 62, 63, 64, 65, 66, 67, 68] (by decide +kernel) (by decide +kernel)
set_option maxRecDepth 20000 in
theorem gX10_act_X10_isDone : GoodIn wsX10_act (wsV RX10 125 RX10 yX10_isDone wsX10_isDone) := goodIn_app (goodIn_of _ (by decide +kernel)) ggX10_act_X10_isDone
theorem dX10_act_0 : decode cX10_act 0 = .ok (.iload_n 1, 1) := by decide +kernel
theorem dX10_act_1 : decode cX10_act 1 = .ok (.invokestatic 134, 3) := by decide +kernel
theorem dX10_act_4 : decode cX10_act 4 = .ok (.ifCond .eq 32, 3) := by decide +kernel
theorem dX10_act_7 : decode cX10_act 7 = .ok (.iload_n 2, 1) := by decide +kernel
theorem dX10_act_8 : decode cX10_act 8 = .ok (.invokestatic 138, 3) := by decide +kernel
theorem dX10_act_11 : decode cX10_act 11 = .ok (.ifCond .eq 25, 3) := by decide +kernel
theorem dX10_act_14 : decode cX10_act 14 = .ok (.iload_n 3, 1) := by decide +kernel
theorem dX10_act_15 : decode cX10_act 15 = .ok (.iconst 0, 1) := by decide +kernel
theorem dX10_act_16 : decode cX10_act 16 = .ok (.iconst 3, 1) := by decide +kernel
theorem dX10_act_17 : decode cX10_act 17 = .ok (.invokestatic 117, 3) := by decide +kernel
theorem dX10_act_20 : decode cX10_act 20 = .ok (.ifCond .eq 16, 3) := by decide +kernel
theorem dX10_act_23 : decode cX10_act 23 = .ok (.iload_n 3, 1) := by decide +kernel
theorem dX10_act_24 : decode cX10_act 24 = .ok (.iconst 3, 1) := by decide +kernel
theorem dX10_act_25 : decode cX10_act 25 = .ok (.if_icmp .ne 13, 3) := by decide +kernel
theorem dX10_act_28 : decode cX10_act 28 = .ok (.iload 4, 2) := by decide +kernel
theorem dX10_act_30 : decode cX10_act 30 = .ok (.invokestatic 141, 3) := by decide +kernel
theorem dX10_act_33 : decode cX10_act 33 = .ok (.ifCond .ne 5, 3) := by decide +kernel
theorem dX10_act_36 : decode cX10_act 36 = .ok (.iconst (-1), 1) := by decide +kernel
theorem dX10_act_37 : decode cX10_act 37 = .ok (.ireturn, 1) := by decide +kernel
theorem dX10_act_38 : decode cX10_act 38 = .ok (.iload_n 3, 1) := by decide +kernel
theorem dX10_act_39 : decode cX10_act 39 = .ok (.tableswitch 56 0 2 #[25, 37, 49], 25) := by decide +kernel
theorem dX10_act_64 : decode cX10_act 64 = .ok (.aload_n 0, 1) := by decide +kernel
theorem dX10_act_65 : decode cX10_act 65 = .ok (.getfield 7, 3) := by decide +kernel
theorem dX10_act_68 : decode cX10_act 68 = .ok (.bipush 8, 2) := by decide +kernel
theorem dX10_act_70 : decode cX10_act 70 = .ok (.iload_n 1, 1) := by decide +kernel
theorem dX10_act_71 : decode cX10_act 71 = .ok (.imul, 1) := by decide +kernel
theorem dX10_act_72 : decode cX10_act 72 = .ok (.iload_n 2, 1) := by decide +kernel
theorem dX10_act_73 : decode cX10_act 73 = .ok (.iadd, 1) := by decide +kernel
theorem dX10_act_74 : decode cX10_act 74 = .ok (.iaload, 1) := by decide +kernel
theorem dX10_act_75 : decode cX10_act 75 = .ok (.ireturn, 1) := by decide +kernel
theorem dX10_act_76 : decode cX10_act 76 = .ok (.aload_n 0, 1) := by decide +kernel
theorem dX10_act_77 : decode cX10_act 77 = .ok (.getfield 13, 3) := by decide +kernel
theorem dX10_act_80 : decode cX10_act 80 = .ok (.bipush 8, 2) := by decide +kernel
theorem dX10_act_82 : decode cX10_act 82 = .ok (.iload_n 1, 1) := by decide +kernel
theorem dX10_act_83 : decode cX10_act 83 = .ok (.imul, 1) := by decide +kernel
theorem dX10_act_84 : decode cX10_act 84 = .ok (.iload_n 2, 1) := by decide +kernel
theorem dX10_act_85 : decode cX10_act 85 = .ok (.iadd, 1) := by decide +kernel
theorem dX10_act_86 : decode cX10_act 86 = .ok (.iaload, 1) := by decide +kernel
theorem dX10_act_87 : decode cX10_act 87 = .ok (.ireturn, 1) := by decide +kernel
theorem dX10_act_88 : decode cX10_act 88 = .ok (.aload_n 0, 1) := by decide +kernel
theorem dX10_act_89 : decode cX10_act 89 = .ok (.iload_n 1, 1) := by decide +kernel
theorem dX10_act_90 : decode cX10_act 90 = .ok (.iload_n 2, 1) := by decide +kernel
theorem dX10_act_91 : decode cX10_act 91 = .ok (.invokevirtual 121, 3) := by decide +kernel
theorem dX10_act_94 : decode cX10_act 94 = .ok (.ireturn, 1) := by decide +kernel
theorem dX10_act_95 : decode cX10_act 95 = .ok (.aload_n 0, 1) := by decide +kernel
theorem dX10_act_96 : decode cX10_act 96 = .ok (.iload_n 1, 1) := by decide +kernel
theorem dX10_act_97 : decode cX10_act 97 = .ok (.iload_n 2, 1) := by decide +kernel
theorem dX10_act_98 : decode cX10_act 98 = .ok (.iload 4, 2) := by decide +kernel
theorem dX10_act_100 : decode cX10_act 100 = .ok (.invokevirtual 125, 3) := by decide +kernel
theorem dX10_act_103 : decode cX10_act 103 = .ok (.ifCond .eq 7, 3) := by decide +kernel
theorem dX10_act_106 : decode cX10_act 106 = .ok (.iconst 1, 1) := by decide +kernel
theorem dX10_act_107 : decode cX10_act 107 = .ok (.goto 4, 3) := by decide +kernel
theorem dX10_act_110 : decode cX10_act 110 = .ok (.iconst 0, 1) := by decide +kernel
theorem dX10_act_111 : decode cX10_act 111 = .ok (.ireturn, 1) := by decide +kernel
theorem dX10_find_0 : decode cX10_find 0 = .ok (.aload_n 0, 1) := by decide +kernel
theorem dX10_find_1 : decode cX10_find 1 = .ok (.getfield 32, 3) := by decide +kernel
theorem dX10_find_4 : decode cX10_find 4 = .ok (.iload_n 1, 1) := by decide +kernel
theorem dX10_find_5 : decode cX10_find 5 = .ok (.iaload, 1) := by decide +kernel
theorem dX10_find_6 : decode cX10_find 6 = .ok (.istore_n 3, 1) := by decide +kernel
theorem dX10_find_7 : decode cX10_find 7 = .ok (.iload_n 3, 1) := by decide +kernel
theorem dX10_find_8 : decode cX10_find 8 = .ok (.iconst 1, 1) := by decide +kernel
theorem dX10_find_9 : decode cX10_find 9 = .ok (.isub, 1) := by decide +kernel
theorem dX10_find_10 : decode cX10_find 10 = .ok (.istore 4, 2) := by decide +kernel
theorem dX10_find_12 : decode cX10_find 12 = .ok (.iconst 0, 1) := by decide +kernel
theorem dX10_find_13 : decode cX10_find 13 = .ok (.istore 5, 2) := by decide +kernel
theorem dX10_find_15 : decode cX10_find 15 = .ok (.iload 5, 2) := by decide +kernel
theorem dX10_find_17 : decode cX10_find 17 = .ok (.iload_n 3, 1) := by decide +kernel
theorem dX10_find_18 : decode cX10_find 18 = .ok (.if_icmp .ge 34, 3) := by decide +kernel
theorem dX10_find_21 : decode cX10_find 21 = .ok (.aload_n 0, 1) := by decide +kernel
theorem dX10_find_22 : decode cX10_find 22 = .ok (.getfield 35, 3) := by decide +kernel
theorem dX10_find_25 : decode cX10_find 25 = .ok (.bipush 6, 2) := by decide +kernel
theorem dX10_find_27 : decode cX10_find 27 = .ok (.iload_n 1, 1) := by decide +kernel
theorem dX10_find_28 : decode cX10_find 28 = .ok (.imul, 1) := by decide +kernel
theorem dX10_find_29 : decode cX10_find 29 = .ok (.iload 5, 2) := by decide +kernel
theorem dX10_find_31 : decode cX10_find 31 = .ok (.iadd, 1) := by decide +kernel
theorem dX10_find_32 : decode cX10_find 32 = .ok (.iaload, 1) := by decide +kernel
theorem dX10_find_33 : decode cX10_find 33 = .ok (.iload_n 2, 1) := by decide +kernel
theorem dX10_find_34 : decode cX10_find 34 = .ok (.if_icmp .gt 8, 3) := by decide +kernel
theorem dX10_find_37 : decode cX10_find 37 = .ok (.iload 5, 2) := by decide +kernel
theorem dX10_find_39 : decode cX10_find 39 = .ok (.goto 5, 3) := by decide +kernel
theorem dX10_find_42 : decode cX10_find 42 = .ok (.iload 4, 2) := by decide +kernel
theorem dX10_find_44 : decode cX10_find 44 = .ok (.istore 4, 2) := by decide +kernel
theorem dX10_find_46 : decode cX10_find 46 = .ok (.iinc 5 1, 3) := by decide +kernel
theorem dX10_find_49 : decode cX10_find 49 = .ok (.goto (-34), 3) := by decide +kernel
theorem dX10_find_52 : decode cX10_find 52 = .ok (.iload 4, 2) := by decide +kernel
theorem dX10_find_54 : decode cX10_find 54 = .ok (.iconst 1, 1) := by decide +kernel
theorem dX10_find_55 : decode cX10_find 55 = .ok (.iadd, 1) := by decide +kernel
theorem dX10_find_56 : decode cX10_find 56 = .ok (.iload_n 3, 1) := by decide +kernel
theorem dX10_find_57 : decode cX10_find 57 = .ok (.irem, 1) := by decide +kernel
theorem dX10_find_58 : decode cX10_find 58 = .ok (.istore 5, 2) := by decide +kernel
theorem dX10_find_60 : decode cX10_find 60 = .ok (.aload_n 0, 1) := by decide +kernel
theorem dX10_find_61 : decode cX10_find 61 = .ok (.getfield 35, 3) := by decide +kernel
theorem dX10_find_64 : decode cX10_find 64 = .ok (.bipush 6, 2) := by decide +kernel
theorem dX10_find_66 : decode cX10_find 66 = .ok (.iload_n 1, 1) := by decide +kernel
theorem dX10_find_67 : decode cX10_find 67 = .ok (.imul, 1) := by decide +kernel
theorem dX10_find_68 : decode cX10_find 68 = .ok (.iload 4, 2) := by decide +kernel
theorem dX10_find_70 : decode cX10_find 70 = .ok (.iadd, 1) := by decide +kernel
theorem dX10_find_71 : decode cX10_find 71 = .ok (.iaload, 1) := by decide +kernel
theorem dX10_find_72 : decode cX10_find 72 = .ok (.istore 6, 2) := by decide +kernel
theorem dX10_find_74 : decode cX10_find 74 = .ok (.aload_n 0, 1) := by decide +kernel
theorem dX10_find_75 : decode cX10_find 75 = .ok (.getfield 35, 3) := by decide +kernel
theorem dX10_find_78 : decode cX10_find 78 = .ok (.bipush 6, 2) := by decide +kernel
theorem dX10_find_80 : decode cX10_find 80 = .ok (.iload_n 1, 1) := by decide +kernel
theorem dX10_find_81 : decode cX10_find 81 = .ok (.imul, 1) := by decide +kernel
theorem dX10_find_82 : decode cX10_find 82 = .ok (.iload 5, 2) := by decide +kernel
theorem dX10_find_84 : decode cX10_find 84 = .ok (.iadd, 1) := by decide +kernel
theorem dX10_find_85 : decode cX10_find 85 = .ok (.iaload, 1) := by decide +kernel
theorem dX10_find_86 : decode cX10_find 86 = .ok (.iload 6, 2) := by decide +kernel
theorem dX10_find_88 : decode cX10_find 88 = .ok (.isub, 1) := by decide +kernel
theorem dX10_find_89 : decode cX10_find 89 = .ok (.sipush 360, 3) := by decide +kernel
theorem dX10_find_92 : decode cX10_find 92 = .ok (.iadd, 1) := by decide +kernel
theorem dX10_find_93 : decode cX10_find 93 = .ok (.sipush 360, 3) := by decide +kernel
theorem dX10_find_96 : decode cX10_find 96 = .ok (.irem, 1) := by decide +kernel
theorem dX10_find_97 : decode cX10_find 97 = .ok (.istore 7, 2) := by decide +kernel
theorem dX10_find_99 : decode cX10_find 99 = .ok (.iload 7, 2) := by decide +kernel
theorem dX10_find_101 : decode cX10_find 101 = .ok (.ifCond .ne 9, 3) := by decide +kernel
theorem dX10_find_104 : decode cX10_find 104 = .ok (.sipush 360, 3) := by decide +kernel
theorem dX10_find_107 : decode cX10_find 107 = .ok (.goto 5, 3) := by decide +kernel
theorem dX10_find_110 : decode cX10_find 110 = .ok (.iload 7, 2) := by decide +kernel
theorem dX10_find_112 : decode cX10_find 112 = .ok (.istore 7, 2) := by decide +kernel
theorem dX10_find_114 : decode cX10_find 114 = .ok (.iload_n 2, 1) := by decide +kernel
theorem dX10_find_115 : decode cX10_find 115 = .ok (.iload 6, 2) := by decide +kernel
theorem dX10_find_117 : decode cX10_find 117 = .ok (.isub, 1) := by decide +kernel
theorem dX10_find_118 : decode cX10_find 118 = .ok (.sipush 360, 3) := by decide +kernel
theorem dX10_find_121 : decode cX10_find 121 = .ok (.iadd, 1) := by decide +kernel
theorem dX10_find_122 : decode cX10_find 122 = .ok (.sipush 360, 3) := by decide +kernel
theorem dX10_find_125 : decode cX10_find 125 = .ok (.irem, 1) := by decide +kernel
theorem dX10_find_126 : decode cX10_find 126 = .ok (.istore 8, 2) := by decide +kernel
theorem dX10_find_128 : decode cX10_find 128 = .ok (.aload_n 0, 1) := by decide +kernel
theorem dX10_find_129 : decode cX10_find 129 = .ok (.getfield 38, 3) := by decide +kernel
theorem dX10_find_132 : decode cX10_find 132 = .ok (.bipush 6, 2) := by decide +kernel
theorem dX10_find_134 : decode cX10_find 134 = .ok (.iload_n 1, 1) := by decide +kernel
theorem dX10_find_135 : decode cX10_find 135 = .ok (.imul, 1) := by decide +kernel
theorem dX10_find_136 : decode cX10_find 136 = .ok (.iload 4, 2) := by decide +kernel
theorem dX10_find_138 : decode cX10_find 138 = .ok (.iadd, 1) := by decide +kernel
theorem dX10_find_139 : decode cX10_find 139 = .ok (.iaload, 1) := by decide +kernel
theorem dX10_find_140 : decode cX10_find 140 = .ok (.istore 9, 2) := by decide +kernel
theorem dX10_find_142 : decode cX10_find 142 = .ok (.aload_n 0, 1) := by decide +kernel
theorem dX10_find_143 : decode cX10_find 143 = .ok (.iload 9, 2) := by decide +kernel
theorem dX10_find_145 : decode cX10_find 145 = .ok (.iload 7, 2) := by decide +kernel
theorem dX10_find_147 : decode cX10_find 147 = .ok (.imul, 1) := by decide +kernel
theorem dX10_find_148 : decode cX10_find 148 = .ok (.aload_n 0, 1) := by decide +kernel
theorem dX10_find_149 : decode cX10_find 149 = .ok (.getfield 38, 3) := by decide +kernel
theorem dX10_find_152 : decode cX10_find 152 = .ok (.bipush 6, 2) := by decide +kernel
theorem dX10_find_154 : decode cX10_find 154 = .ok (.iload_n 1, 1) := by decide +kernel
theorem dX10_find_155 : decode cX10_find 155 = .ok (.imul, 1) := by decide +kernel
theorem dX10_find_156 : decode cX10_find 156 = .ok (.iload 5, 2) := by decide +kernel
theorem dX10_find_158 : decode cX10_find 158 = .ok (.iadd, 1) := by decide +kernel
theorem dX10_find_159 : decode cX10_find 159 = .ok (.iaload, 1) := by decide +kernel
theorem dX10_find_160 : decode cX10_find 160 = .ok (.iload 9, 2) := by decide +kernel
theorem dX10_find_162 : decode cX10_find 162 = .ok (.isub, 1) := by decide +kernel
theorem dX10_find_163 : decode cX10_find 163 = .ok (.iload 8, 2) := by decide +kernel
theorem dX10_find_165 : decode cX10_find 165 = .ok (.imul, 1) := by decide +kernel
theorem dX10_find_166 : decode cX10_find 166 = .ok (.iadd, 1) := by decide +kernel
theorem dX10_find_167 : decode cX10_find 167 = .ok (.putfield 156, 3) := by decide +kernel
theorem dX10_find_170 : decode cX10_find 170 = .ok (.aload_n 0, 1) := by decide +kernel
theorem dX10_find_171 : decode cX10_find 171 = .ok (.iload 7, 2) := by decide +kernel
theorem dX10_find_173 : decode cX10_find 173 = .ok (.putfield 159, 3) := by decide +kernel
theorem dX10_find_176 : decode cX10_find 176 = .ok (.return_, 1) := by decide +kernel
set_option maxRecDepth 20000 in
theorem ggX10_areClear_X10_find : GoodIn wsX10_areClear wsX10_find := goodIn_r _ [8, 9, 10, 11, 1, 3, 12, 13, 14, 15, 16, 17, 18, 19, 20, 21, 22, 23, 24, 25, 26, 27, 28, 29, 30, 31, 32, 33, 34, 35, 36, 37, 38, 39, 40, 41, 42, 43, 44, 45, 46, 47, 48, 49, 50, 51, 52, 53, 54, 55, 56] (by decide +kernel) (by decide +kernel)
set_option maxRecDepth 20000 in
theorem gX10_areClear_X10_find : GoodIn wsX10_areClear (wsV RX10 162 RX10 yX10_find wsX10_find) := goodIn_app (goodIn_of _ (by decide +kernel)) ggX10_areClear_X10_find
theorem dX10_areClear_0 : decode cX10_areClear 0 = .ok (.iconst 0, 1) := by decide +kernel
theorem dX10_areClear_1 : decode cX10_areClear 1 = .ok (.istore_n 1, 1) := by decide +kernel
theorem dX10_areClear_2 : decode cX10_areClear 2 = .ok (.iload_n 1, 1) := by decide +kernel
theorem dX10_areClear_3 : decode cX10_areClear 3 = .ok (.iconst 3, 1) := by decide +kernel
theorem dX10_areClear_4 : decode cX10_areClear 4 = .ok (.if_icmp .ge 97, 3) := by decide +kernel
theorem dX10_areClear_7 : decode cX10_areClear 7 = .ok (.iload_n 1, 1) := by decide +kernel
theorem dX10_areClear_8 : decode cX10_areClear 8 = .ok (.iconst 1, 1) := by decide +kernel
theorem dX10_areClear_9 : decode cX10_areClear 9 = .ok (.iadd, 1) := by decide +kernel
theorem dX10_areClear_10 : decode cX10_areClear 10 = .ok (.istore_n 2, 1) := by decide +kernel
theorem dX10_areClear_11 : decode cX10_areClear 11 = .ok (.iload_n 2, 1) := by decide +kernel
theorem dX10_areClear_12 : decode cX10_areClear 12 = .ok (.iconst 3, 1) := by decide +kernel
theorem dX10_areClear_13 : decode cX10_areClear 13 = .ok (.if_icmp .ge 82, 3) := by decide +kernel
theorem dX10_areClear_16 : decode cX10_areClear 16 = .ok (.iconst 0, 1) := by decide +kernel
theorem dX10_areClear_17 : decode cX10_areClear 17 = .ok (.istore_n 3, 1) := by decide +kernel
theorem dX10_areClear_18 : decode cX10_areClear 18 = .ok (.iload_n 3, 1) := by decide +kernel
theorem dX10_areClear_19 : decode cX10_areClear 19 = .ok (.sipush 360, 3) := by decide +kernel
theorem dX10_areClear_22 : decode cX10_areClear 22 = .ok (.if_icmp .ge 67, 3) := by decide +kernel
theorem dX10_areClear_25 : decode cX10_areClear 25 = .ok (.aload_n 0, 1) := by decide +kernel
theorem dX10_areClear_26 : decode cX10_areClear 26 = .ok (.iload_n 1, 1) := by decide +kernel
theorem dX10_areClear_27 : decode cX10_areClear 27 = .ok (.iload_n 3, 1) := by decide +kernel
theorem dX10_areClear_28 : decode cX10_areClear 28 = .ok (.invokevirtual 162, 3) := by decide +kernel
theorem dX10_areClear_31 : decode cX10_areClear 31 = .ok (.aload_n 0, 1) := by decide +kernel
theorem dX10_areClear_32 : decode cX10_areClear 32 = .ok (.getfield 156, 3) := by decide +kernel
theorem dX10_areClear_35 : decode cX10_areClear 35 = .ok (.i2l, 1) := by decide +kernel
theorem dX10_areClear_36 : decode cX10_areClear 36 = .ok (.ldc2_w 166, 3) := by decide +kernel
theorem dX10_areClear_39 : decode cX10_areClear 39 = .ok (.aload_n 0, 1) := by decide +kernel
theorem dX10_areClear_40 : decode cX10_areClear 40 = .ok (.getfield 159, 3) := by decide +kernel
theorem dX10_areClear_43 : decode cX10_areClear 43 = .ok (.i2l, 1) := by decide +kernel
theorem dX10_areClear_44 : decode cX10_areClear 44 = .ok (.lmul, 1) := by decide +kernel
theorem dX10_areClear_45 : decode cX10_areClear 45 = .ok (.ladd, 1) := by decide +kernel
theorem dX10_areClear_46 : decode cX10_areClear 46 = .ok (.lstore 4, 2) := by decide +kernel
theorem dX10_areClear_48 : decode cX10_areClear 48 = .ok (.aload_n 0, 1) := by decide +kernel
theorem dX10_areClear_49 : decode cX10_areClear 49 = .ok (.getfield 159, 3) := by decide +kernel
theorem dX10_areClear_52 : decode cX10_areClear 52 = .ok (.i2l, 1) := by decide +kernel
theorem dX10_areClear_53 : decode cX10_areClear 53 = .ok (.lstore 6, 2) := by decide +kernel
theorem dX10_areClear_55 : decode cX10_areClear 55 = .ok (.aload_n 0, 1) := by decide +kernel
theorem dX10_areClear_56 : decode cX10_areClear 56 = .ok (.iload_n 2, 1) := by decide +kernel
theorem dX10_areClear_57 : decode cX10_areClear 57 = .ok (.iload_n 3, 1) := by decide +kernel
theorem dX10_areClear_58 : decode cX10_areClear 58 = .ok (.invokevirtual 162, 3) := by decide +kernel
theorem dX10_areClear_61 : decode cX10_areClear 61 = .ok (.lload 4, 2) := by decide +kernel
theorem dX10_areClear_63 : decode cX10_areClear 63 = .ok (.aload_n 0, 1) := by decide +kernel
theorem dX10_areClear_64 : decode cX10_areClear 64 = .ok (.getfield 159, 3) := by decide +kernel
theorem dX10_areClear_67 : decode cX10_areClear 67 = .ok (.i2l, 1) := by decide +kernel
theorem dX10_areClear_68 : decode cX10_areClear 68 = .ok (.lmul, 1) := by decide +kernel
theorem dX10_areClear_69 : decode cX10_areClear 69 = .ok (.aload_n 0, 1) := by decide +kernel
theorem dX10_areClear_70 : decode cX10_areClear 70 = .ok (.getfield 156, 3) := by decide +kernel
theorem dX10_areClear_73 : decode cX10_areClear 73 = .ok (.i2l, 1) := by decide +kernel
theorem dX10_areClear_74 : decode cX10_areClear 74 = .ok (.lload 6, 2) := by decide +kernel
theorem dX10_areClear_76 : decode cX10_areClear 76 = .ok (.lmul, 1) := by decide +kernel
theorem dX10_areClear_77 : decode cX10_areClear 77 = .ok (.lcmp, 1) := by decide +kernel
theorem dX10_areClear_78 : decode cX10_areClear 78 = .ok (.ifCond .le 5, 3) := by decide +kernel
theorem dX10_areClear_81 : decode cX10_areClear 81 = .ok (.iconst 0, 1) := by decide +kernel
theorem dX10_areClear_82 : decode cX10_areClear 82 = .ok (.ireturn, 1) := by decide +kernel
theorem dX10_areClear_83 : decode cX10_areClear 83 = .ok (.iinc 3 1, 3) := by decide +kernel
theorem dX10_areClear_86 : decode cX10_areClear 86 = .ok (.goto (-68), 3) := by decide +kernel
theorem dX10_areClear_89 : decode cX10_areClear 89 = .ok (.iinc 2 1, 3) := by decide +kernel
theorem dX10_areClear_92 : decode cX10_areClear 92 = .ok (.goto (-81), 3) := by decide +kernel
theorem dX10_areClear_95 : decode cX10_areClear 95 = .ok (.iinc 1 1, 3) := by decide +kernel
theorem dX10_areClear_98 : decode cX10_areClear 98 = .ok (.goto (-96), 3) := by decide +kernel
theorem dX10_areClear_101 : decode cX10_areClear 101 = .ok (.iconst 1, 1) := by decide +kernel
theorem dX10_areClear_102 : decode cX10_areClear 102 = .ok (.ireturn, 1) := by decide +kernel
set_option maxRecDepth 20000 in
theorem ggX10_arm_X10_isArm : GoodIn wsX10_arm wsX10_isArm := goodIn_r _ [12, 13, 14, 11, 15] (by decide +kernel) (by decide +kernel)
set_option maxRecDepth 20000 in
theorem gX10_arm_X10_isArm : GoodIn wsX10_arm (va_wsS RX10 168 yX10_isArm wsX10_isArm) := goodIn_app (goodIn_of _ (by decide +kernel)) ggX10_arm_X10_isArm
set_option maxRecDepth 20000 in
theorem ggX10_arm_X10_areClear : GoodIn wsX10_arm wsX10_areClear := goodIn_r _ [19, 20, 21, 22, 23, 24, 25, 11, 26, 2, 4, 6, 27, 28, 29, 30, 31, 32, 33, 34, 35, 36, 37, 38, 39, 40, 41, 42, 43, 44, 45, 46, 47, 48, 49, 50, 51, 52, 53, 54, 55, 56, 57, 58, 59, 60, 61, 62, 63, 64, 65, 66, 67, 68, 69, 70, 71] (by decide +kernel) (by decide +kernel)
set_option maxRecDepth 20000 in
theorem gX10_arm_X10_areClear : GoodIn wsX10_arm (wsV RX10 174 RX10 yX10_areClear wsX10_areClear) := goodIn_app (goodIn_of _ (by decide +kernel)) ggX10_arm_X10_areClear
theorem dX10_arm_0 : decode cX10_arm 0 = .ok (.iload_n 1, 1) := by decide +kernel
theorem dX10_arm_1 : decode cX10_arm 1 = .ok (.invokestatic 168, 3) := by decide +kernel
theorem dX10_arm_4 : decode cX10_arm 4 = .ok (.ifCond .ne 5, 3) := by decide +kernel
theorem dX10_arm_7 : decode cX10_arm 7 = .ok (.iconst (-1), 1) := by decide +kernel
theorem dX10_arm_8 : decode cX10_arm 8 = .ok (.ireturn, 1) := by decide +kernel
theorem dX10_arm_9 : decode cX10_arm 9 = .ok (.aload_n 0, 1) := by decide +kernel
theorem dX10_arm_10 : decode cX10_arm 10 = .ok (.getfield 171, 3) := by decide +kernel
theorem dX10_arm_13 : decode cX10_arm 13 = .ok (.ifCond .ne 6, 3) := by decide +kernel
theorem dX10_arm_16 : decode cX10_arm 16 = .ok (.bipush (-4), 2) := by decide +kernel
theorem dX10_arm_18 : decode cX10_arm 18 = .ok (.ireturn, 1) := by decide +kernel
theorem dX10_arm_19 : decode cX10_arm 19 = .ok (.aload_n 0, 1) := by decide +kernel
theorem dX10_arm_20 : decode cX10_arm 20 = .ok (.getfield 32, 3) := by decide +kernel
theorem dX10_arm_23 : decode cX10_arm 23 = .ok (.iload_n 1, 1) := by decide +kernel
theorem dX10_arm_24 : decode cX10_arm 24 = .ok (.iaload, 1) := by decide +kernel
theorem dX10_arm_25 : decode cX10_arm 25 = .ok (.istore_n 2, 1) := by decide +kernel
theorem dX10_arm_26 : decode cX10_arm 26 = .ok (.iconst 0, 1) := by decide +kernel
theorem dX10_arm_27 : decode cX10_arm 27 = .ok (.istore_n 3, 1) := by decide +kernel
theorem dX10_arm_28 : decode cX10_arm 28 = .ok (.iload_n 3, 1) := by decide +kernel
theorem dX10_arm_29 : decode cX10_arm 29 = .ok (.bipush 6, 2) := by decide +kernel
theorem dX10_arm_31 : decode cX10_arm 31 = .ok (.if_icmp .ge 77, 3) := by decide +kernel
theorem dX10_arm_34 : decode cX10_arm 34 = .ok (.aload_n 0, 1) := by decide +kernel
theorem dX10_arm_35 : decode cX10_arm 35 = .ok (.getfield 111, 3) := by decide +kernel
theorem dX10_arm_38 : decode cX10_arm 38 = .ok (.iload_n 3, 1) := by decide +kernel
theorem dX10_arm_39 : decode cX10_arm 39 = .ok (.aload_n 0, 1) := by decide +kernel
theorem dX10_arm_40 : decode cX10_arm 40 = .ok (.getfield 35, 3) := by decide +kernel
theorem dX10_arm_43 : decode cX10_arm 43 = .ok (.bipush 6, 2) := by decide +kernel
theorem dX10_arm_45 : decode cX10_arm 45 = .ok (.iload_n 1, 1) := by decide +kernel
theorem dX10_arm_46 : decode cX10_arm 46 = .ok (.imul, 1) := by decide +kernel
theorem dX10_arm_47 : decode cX10_arm 47 = .ok (.iload_n 3, 1) := by decide +kernel
theorem dX10_arm_48 : decode cX10_arm 48 = .ok (.iadd, 1) := by decide +kernel
theorem dX10_arm_49 : decode cX10_arm 49 = .ok (.iaload, 1) := by decide +kernel
theorem dX10_arm_50 : decode cX10_arm 50 = .ok (.iastore, 1) := by decide +kernel
theorem dX10_arm_51 : decode cX10_arm 51 = .ok (.aload_n 0, 1) := by decide +kernel
theorem dX10_arm_52 : decode cX10_arm 52 = .ok (.getfield 114, 3) := by decide +kernel
theorem dX10_arm_55 : decode cX10_arm 55 = .ok (.iload_n 3, 1) := by decide +kernel
theorem dX10_arm_56 : decode cX10_arm 56 = .ok (.aload_n 0, 1) := by decide +kernel
theorem dX10_arm_57 : decode cX10_arm 57 = .ok (.getfield 38, 3) := by decide +kernel
theorem dX10_arm_60 : decode cX10_arm 60 = .ok (.bipush 6, 2) := by decide +kernel
theorem dX10_arm_62 : decode cX10_arm 62 = .ok (.iload_n 1, 1) := by decide +kernel
theorem dX10_arm_63 : decode cX10_arm 63 = .ok (.imul, 1) := by decide +kernel
theorem dX10_arm_64 : decode cX10_arm 64 = .ok (.iload_n 3, 1) := by decide +kernel
theorem dX10_arm_65 : decode cX10_arm 65 = .ok (.iadd, 1) := by decide +kernel
theorem dX10_arm_66 : decode cX10_arm 66 = .ok (.iaload, 1) := by decide +kernel
theorem dX10_arm_67 : decode cX10_arm 67 = .ok (.iastore, 1) := by decide +kernel
theorem dX10_arm_68 : decode cX10_arm 68 = .ok (.aload_n 0, 1) := by decide +kernel
theorem dX10_arm_69 : decode cX10_arm 69 = .ok (.getfield 35, 3) := by decide +kernel
theorem dX10_arm_72 : decode cX10_arm 72 = .ok (.bipush 6, 2) := by decide +kernel
theorem dX10_arm_74 : decode cX10_arm 74 = .ok (.iload_n 1, 1) := by decide +kernel
theorem dX10_arm_75 : decode cX10_arm 75 = .ok (.imul, 1) := by decide +kernel
theorem dX10_arm_76 : decode cX10_arm 76 = .ok (.iload_n 3, 1) := by decide +kernel
theorem dX10_arm_77 : decode cX10_arm 77 = .ok (.iadd, 1) := by decide +kernel
theorem dX10_arm_78 : decode cX10_arm 78 = .ok (.aload_n 0, 1) := by decide +kernel
theorem dX10_arm_79 : decode cX10_arm 79 = .ok (.getfield 41, 3) := by decide +kernel
theorem dX10_arm_82 : decode cX10_arm 82 = .ok (.iload_n 3, 1) := by decide +kernel
theorem dX10_arm_83 : decode cX10_arm 83 = .ok (.iaload, 1) := by decide +kernel
theorem dX10_arm_84 : decode cX10_arm 84 = .ok (.iastore, 1) := by decide +kernel
theorem dX10_arm_85 : decode cX10_arm 85 = .ok (.aload_n 0, 1) := by decide +kernel
theorem dX10_arm_86 : decode cX10_arm 86 = .ok (.getfield 38, 3) := by decide +kernel
theorem dX10_arm_89 : decode cX10_arm 89 = .ok (.bipush 6, 2) := by decide +kernel
theorem dX10_arm_91 : decode cX10_arm 91 = .ok (.iload_n 1, 1) := by decide +kernel
theorem dX10_arm_92 : decode cX10_arm 92 = .ok (.imul, 1) := by decide +kernel
theorem dX10_arm_93 : decode cX10_arm 93 = .ok (.iload_n 3, 1) := by decide +kernel
theorem dX10_arm_94 : decode cX10_arm 94 = .ok (.iadd, 1) := by decide +kernel
theorem dX10_arm_95 : decode cX10_arm 95 = .ok (.aload_n 0, 1) := by decide +kernel
theorem dX10_arm_96 : decode cX10_arm 96 = .ok (.getfield 44, 3) := by decide +kernel
theorem dX10_arm_99 : decode cX10_arm 99 = .ok (.iload_n 3, 1) := by decide +kernel
theorem dX10_arm_100 : decode cX10_arm 100 = .ok (.iaload, 1) := by decide +kernel
theorem dX10_arm_101 : decode cX10_arm 101 = .ok (.iastore, 1) := by decide +kernel
theorem dX10_arm_102 : decode cX10_arm 102 = .ok (.iinc 3 1, 3) := by decide +kernel
theorem dX10_arm_105 : decode cX10_arm 105 = .ok (.goto (-77), 3) := by decide +kernel
theorem dX10_arm_108 : decode cX10_arm 108 = .ok (.aload_n 0, 1) := by decide +kernel
theorem dX10_arm_109 : decode cX10_arm 109 = .ok (.getfield 32, 3) := by decide +kernel
theorem dX10_arm_112 : decode cX10_arm 112 = .ok (.iload_n 1, 1) := by decide +kernel
theorem dX10_arm_113 : decode cX10_arm 113 = .ok (.aload_n 0, 1) := by decide +kernel
theorem dX10_arm_114 : decode cX10_arm 114 = .ok (.getfield 171, 3) := by decide +kernel
theorem dX10_arm_117 : decode cX10_arm 117 = .ok (.iastore, 1) := by decide +kernel
theorem dX10_arm_118 : decode cX10_arm 118 = .ok (.aload_n 0, 1) := by decide +kernel
theorem dX10_arm_119 : decode cX10_arm 119 = .ok (.invokevirtual 174, 3) := by decide +kernel
theorem dX10_arm_122 : decode cX10_arm 122 = .ok (.ifCond .ne 61, 3) := by decide +kernel
theorem dX10_arm_125 : decode cX10_arm 125 = .ok (.aload_n 0, 1) := by decide +kernel
theorem dX10_arm_126 : decode cX10_arm 126 = .ok (.getfield 32, 3) := by decide +kernel
theorem dX10_arm_129 : decode cX10_arm 129 = .ok (.iload_n 1, 1) := by decide +kernel
theorem dX10_arm_130 : decode cX10_arm 130 = .ok (.iload_n 2, 1) := by decide +kernel
theorem dX10_arm_131 : decode cX10_arm 131 = .ok (.iastore, 1) := by decide +kernel
theorem dX10_arm_132 : decode cX10_arm 132 = .ok (.iconst 0, 1) := by decide +kernel
theorem dX10_arm_133 : decode cX10_arm 133 = .ok (.istore_n 3, 1) := by decide +kernel
theorem dX10_arm_134 : decode cX10_arm 134 = .ok (.iload_n 3, 1) := by decide +kernel
theorem dX10_arm_135 : decode cX10_arm 135 = .ok (.bipush 6, 2) := by decide +kernel
theorem dX10_arm_137 : decode cX10_arm 137 = .ok (.if_icmp .ge 43, 3) := by decide +kernel
theorem dX10_arm_140 : decode cX10_arm 140 = .ok (.aload_n 0, 1) := by decide +kernel
theorem dX10_arm_141 : decode cX10_arm 141 = .ok (.getfield 35, 3) := by decide +kernel
theorem dX10_arm_144 : decode cX10_arm 144 = .ok (.bipush 6, 2) := by decide +kernel
theorem dX10_arm_146 : decode cX10_arm 146 = .ok (.iload_n 1, 1) := by decide +kernel
theorem dX10_arm_147 : decode cX10_arm 147 = .ok (.imul, 1) := by decide +kernel
theorem dX10_arm_148 : decode cX10_arm 148 = .ok (.iload_n 3, 1) := by decide +kernel
theorem dX10_arm_149 : decode cX10_arm 149 = .ok (.iadd, 1) := by decide +kernel
theorem dX10_arm_150 : decode cX10_arm 150 = .ok (.aload_n 0, 1) := by decide +kernel
theorem dX10_arm_151 : decode cX10_arm 151 = .ok (.getfield 111, 3) := by decide +kernel
theorem dX10_arm_154 : decode cX10_arm 154 = .ok (.iload_n 3, 1) := by decide +kernel
theorem dX10_arm_155 : decode cX10_arm 155 = .ok (.iaload, 1) := by decide +kernel
theorem dX10_arm_156 : decode cX10_arm 156 = .ok (.iastore, 1) := by decide +kernel
theorem dX10_arm_157 : decode cX10_arm 157 = .ok (.aload_n 0, 1) := by decide +kernel
theorem dX10_arm_158 : decode cX10_arm 158 = .ok (.getfield 38, 3) := by decide +kernel
theorem dX10_arm_161 : decode cX10_arm 161 = .ok (.bipush 6, 2) := by decide +kernel
theorem dX10_arm_163 : decode cX10_arm 163 = .ok (.iload_n 1, 1) := by decide +kernel
theorem dX10_arm_164 : decode cX10_arm 164 = .ok (.imul, 1) := by decide +kernel
theorem dX10_arm_165 : decode cX10_arm 165 = .ok (.iload_n 3, 1) := by decide +kernel
theorem dX10_arm_166 : decode cX10_arm 166 = .ok (.iadd, 1) := by decide +kernel
theorem dX10_arm_167 : decode cX10_arm 167 = .ok (.aload_n 0, 1) := by decide +kernel
theorem dX10_arm_168 : decode cX10_arm 168 = .ok (.getfield 114, 3) := by decide +kernel
theorem dX10_arm_171 : decode cX10_arm 171 = .ok (.iload_n 3, 1) := by decide +kernel
theorem dX10_arm_172 : decode cX10_arm 172 = .ok (.iaload, 1) := by decide +kernel
theorem dX10_arm_173 : decode cX10_arm 173 = .ok (.iastore, 1) := by decide +kernel
theorem dX10_arm_174 : decode cX10_arm 174 = .ok (.iinc 3 1, 3) := by decide +kernel
theorem dX10_arm_177 : decode cX10_arm 177 = .ok (.goto (-43), 3) := by decide +kernel
theorem dX10_arm_180 : decode cX10_arm 180 = .ok (.bipush (-5), 2) := by decide +kernel
theorem dX10_arm_182 : decode cX10_arm 182 = .ok (.ireturn, 1) := by decide +kernel
theorem dX10_arm_183 : decode cX10_arm 183 = .ok (.aload_n 0, 1) := by decide +kernel
theorem dX10_arm_184 : decode cX10_arm 184 = .ok (.iconst 0, 1) := by decide +kernel
theorem dX10_arm_185 : decode cX10_arm 185 = .ok (.putfield 171, 3) := by decide +kernel
theorem dX10_arm_188 : decode cX10_arm 188 = .ok (.aload_n 0, 1) := by decide +kernel
theorem dX10_arm_189 : decode cX10_arm 189 = .ok (.getfield 32, 3) := by decide +kernel
theorem dX10_arm_192 : decode cX10_arm 192 = .ok (.iload_n 1, 1) := by decide +kernel
theorem dX10_arm_193 : decode cX10_arm 193 = .ok (.iaload, 1) := by decide +kernel
theorem dX10_arm_194 : decode cX10_arm 194 = .ok (.ireturn, 1) := by decide +kernel
set_option maxRecDepth 20000 in
theorem ggX10_knot_X10_isDegree : GoodIn wsX10_knot wsX10_isDegree := goodIn_r _ [7, 8, 9, 6, 10] (by decide +kernel) (by decide +kernel)
set_option maxRecDepth 20000 in
theorem gX10_knot_X10_isDegree : GoodIn wsX10_knot (va_wsS RX10 141 yX10_isDegree wsX10_isDegree) := goodIn_app (goodIn_of _ (by decide +kernel)) ggX10_knot_X10_isDegree
set_option maxRecDepth 20000 in
theorem ggX10_knot_X10_in : GoodIn wsX10_knot wsX10_in := goodIn_r _ [10] (by decide +kernel) (by decide +kernel)
set_option maxRecDepth 20000 in
theorem gX10_knot_X10_in : GoodIn wsX10_knot (va_wsS RX10 117 yX10_in wsX10_in) := goodIn_app (goodIn_of _ (by decide +kernel)) ggX10_knot_X10_in
theorem dX10_knot_0 : decode cX10_knot 0 = .ok (.iload_n 1, 1) := by decide +kernel
theorem dX10_knot_1 : decode cX10_knot 1 = .ok (.invokestatic 141, 3) := by decide +kernel
theorem dX10_knot_4 : decode cX10_knot 4 = .ok (.ifCond .eq 36, 3) := by decide +kernel
theorem dX10_knot_7 : decode cX10_knot 7 = .ok (.iload_n 2, 1) := by decide +kernel
theorem dX10_knot_8 : decode cX10_knot 8 = .ok (.iconst 0, 1) := by decide +kernel
theorem dX10_knot_9 : decode cX10_knot 9 = .ok (.sipush 1000, 3) := by decide +kernel
theorem dX10_knot_12 : decode cX10_knot 12 = .ok (.invokestatic 117, 3) := by decide +kernel
theorem dX10_knot_15 : decode cX10_knot 15 = .ok (.ifCond .eq 25, 3) := by decide +kernel
theorem dX10_knot_18 : decode cX10_knot 18 = .ok (.aload_n 0, 1) := by decide +kernel
theorem dX10_knot_19 : decode cX10_knot 19 = .ok (.getfield 171, 3) := by decide +kernel
theorem dX10_knot_22 : decode cX10_knot 22 = .ok (.ifCond .le 20, 3) := by decide +kernel
theorem dX10_knot_25 : decode cX10_knot 25 = .ok (.iload_n 1, 1) := by decide +kernel
theorem dX10_knot_26 : decode cX10_knot 26 = .ok (.aload_n 0, 1) := by decide +kernel
theorem dX10_knot_27 : decode cX10_knot 27 = .ok (.getfield 41, 3) := by decide +kernel
theorem dX10_knot_30 : decode cX10_knot 30 = .ok (.aload_n 0, 1) := by decide +kernel
theorem dX10_knot_31 : decode cX10_knot 31 = .ok (.getfield 171, 3) := by decide +kernel
theorem dX10_knot_34 : decode cX10_knot 34 = .ok (.iconst 1, 1) := by decide +kernel
theorem dX10_knot_35 : decode cX10_knot 35 = .ok (.isub, 1) := by decide +kernel
theorem dX10_knot_36 : decode cX10_knot 36 = .ok (.iaload, 1) := by decide +kernel
theorem dX10_knot_37 : decode cX10_knot 37 = .ok (.if_icmp .gt 5, 3) := by decide +kernel
theorem dX10_knot_40 : decode cX10_knot 40 = .ok (.iconst (-1), 1) := by decide +kernel
theorem dX10_knot_41 : decode cX10_knot 41 = .ok (.ireturn, 1) := by decide +kernel
theorem dX10_knot_42 : decode cX10_knot 42 = .ok (.aload_n 0, 1) := by decide +kernel
theorem dX10_knot_43 : decode cX10_knot 43 = .ok (.getfield 171, 3) := by decide +kernel
theorem dX10_knot_46 : decode cX10_knot 46 = .ok (.bipush 6, 2) := by decide +kernel
theorem dX10_knot_48 : decode cX10_knot 48 = .ok (.if_icmp .ne 6, 3) := by decide +kernel
theorem dX10_knot_51 : decode cX10_knot 51 = .ok (.bipush (-2), 2) := by decide +kernel
theorem dX10_knot_53 : decode cX10_knot 53 = .ok (.ireturn, 1) := by decide +kernel
theorem dX10_knot_54 : decode cX10_knot 54 = .ok (.aload_n 0, 1) := by decide +kernel
theorem dX10_knot_55 : decode cX10_knot 55 = .ok (.getfield 41, 3) := by decide +kernel
theorem dX10_knot_58 : decode cX10_knot 58 = .ok (.aload_n 0, 1) := by decide +kernel
theorem dX10_knot_59 : decode cX10_knot 59 = .ok (.getfield 171, 3) := by decide +kernel
theorem dX10_knot_62 : decode cX10_knot 62 = .ok (.iload_n 1, 1) := by decide +kernel
theorem dX10_knot_63 : decode cX10_knot 63 = .ok (.iastore, 1) := by decide +kernel
theorem dX10_knot_64 : decode cX10_knot 64 = .ok (.aload_n 0, 1) := by decide +kernel
theorem dX10_knot_65 : decode cX10_knot 65 = .ok (.getfield 44, 3) := by decide +kernel
theorem dX10_knot_68 : decode cX10_knot 68 = .ok (.aload_n 0, 1) := by decide +kernel
theorem dX10_knot_69 : decode cX10_knot 69 = .ok (.getfield 171, 3) := by decide +kernel
theorem dX10_knot_72 : decode cX10_knot 72 = .ok (.iload_n 2, 1) := by decide +kernel
theorem dX10_knot_73 : decode cX10_knot 73 = .ok (.iastore, 1) := by decide +kernel
theorem dX10_knot_74 : decode cX10_knot 74 = .ok (.aload_n 0, 1) := by decide +kernel
theorem dX10_knot_75 : decode cX10_knot 75 = .ok (.dup, 1) := by decide +kernel
theorem dX10_knot_76 : decode cX10_knot 76 = .ok (.getfield 171, 3) := by decide +kernel
theorem dX10_knot_79 : decode cX10_knot 79 = .ok (.iconst 1, 1) := by decide +kernel
theorem dX10_knot_80 : decode cX10_knot 80 = .ok (.iadd, 1) := by decide +kernel
theorem dX10_knot_81 : decode cX10_knot 81 = .ok (.putfield 171, 3) := by decide +kernel
theorem dX10_knot_84 : decode cX10_knot 84 = .ok (.aload_n 0, 1) := by decide +kernel
theorem dX10_knot_85 : decode cX10_knot 85 = .ok (.getfield 171, 3) := by decide +kernel
theorem dX10_knot_88 : decode cX10_knot 88 = .ok (.ireturn, 1) := by decide +kernel
theorem dX10_forget_0 : decode cX10_forget 0 = .ok (.aload_n 0, 1) := by decide +kernel
theorem dX10_forget_1 : decode cX10_forget 1 = .ok (.getfield 171, 3) := by decide +kernel
theorem dX10_forget_4 : decode cX10_forget 4 = .ok (.istore_n 1, 1) := by decide +kernel
theorem dX10_forget_5 : decode cX10_forget 5 = .ok (.aload_n 0, 1) := by decide +kernel
theorem dX10_forget_6 : decode cX10_forget 6 = .ok (.iconst 0, 1) := by decide +kernel
theorem dX10_forget_7 : decode cX10_forget 7 = .ok (.putfield 171, 3) := by decide +kernel
theorem dX10_forget_10 : decode cX10_forget 10 = .ok (.iload_n 1, 1) := by decide +kernel
theorem dX10_forget_11 : decode cX10_forget 11 = .ok (.ireturn, 1) := by decide +kernel
theorem dX10_common_0 : decode cX10_common 0 = .ok (.iload_n 0, 1) := by decide +kernel
theorem dX10_common_1 : decode cX10_common 1 = .ok (.istore_n 2, 1) := by decide +kernel
theorem dX10_common_2 : decode cX10_common 2 = .ok (.iload_n 1, 1) := by decide +kernel
theorem dX10_common_3 : decode cX10_common 3 = .ok (.istore_n 3, 1) := by decide +kernel
theorem dX10_common_4 : decode cX10_common 4 = .ok (.iload_n 3, 1) := by decide +kernel
theorem dX10_common_5 : decode cX10_common 5 = .ok (.ifCond .eq 16, 3) := by decide +kernel
theorem dX10_common_8 : decode cX10_common 8 = .ok (.iload_n 2, 1) := by decide +kernel
theorem dX10_common_9 : decode cX10_common 9 = .ok (.iload_n 3, 1) := by decide +kernel
theorem dX10_common_10 : decode cX10_common 10 = .ok (.irem, 1) := by decide +kernel
theorem dX10_common_11 : decode cX10_common 11 = .ok (.istore 4, 2) := by decide +kernel
theorem dX10_common_13 : decode cX10_common 13 = .ok (.iload_n 3, 1) := by decide +kernel
theorem dX10_common_14 : decode cX10_common 14 = .ok (.istore_n 2, 1) := by decide +kernel
theorem dX10_common_15 : decode cX10_common 15 = .ok (.iload 4, 2) := by decide +kernel
theorem dX10_common_17 : decode cX10_common 17 = .ok (.istore_n 3, 1) := by decide +kernel
theorem dX10_common_18 : decode cX10_common 18 = .ok (.goto (-14), 3) := by decide +kernel
theorem dX10_common_21 : decode cX10_common 21 = .ok (.iload_n 2, 1) := by decide +kernel
theorem dX10_common_22 : decode cX10_common 22 = .ok (.ireturn, 1) := by decide +kernel
set_option maxRecDepth 20000 in
theorem ggX10_place_X10_isArm : GoodIn wsX10_place wsX10_isArm := goodIn_r _ [6, 7, 8, 5, 9] (by decide +kernel) (by decide +kernel)
set_option maxRecDepth 20000 in
theorem gX10_place_X10_isArm : GoodIn wsX10_place (va_wsS RX10 168 yX10_isArm wsX10_isArm) := goodIn_app (goodIn_of _ (by decide +kernel)) ggX10_place_X10_isArm
set_option maxRecDepth 20000 in
theorem ggX10_place_X10_isDegree : GoodIn wsX10_place wsX10_isDegree := goodIn_r _ [12, 7, 8, 5, 9] (by decide +kernel) (by decide +kernel)
set_option maxRecDepth 20000 in
theorem gX10_place_X10_isDegree : GoodIn wsX10_place (va_wsS RX10 141 yX10_isDegree wsX10_isDegree) := goodIn_app (goodIn_of _ (by decide +kernel)) ggX10_place_X10_isDegree
set_option maxRecDepth 20000 in
theorem ggX10_place_X10_in : GoodIn wsX10_place wsX10_in := goodIn_r _ [9] (by decide +kernel) (by decide +kernel)
set_option maxRecDepth 20000 in
theorem gX10_place_X10_in : GoodIn wsX10_place (va_wsS RX10 117 yX10_in wsX10_in) := goodIn_app (goodIn_of _ (by decide +kernel)) ggX10_place_X10_in
set_option maxRecDepth 20000 in
theorem ggX10_place_X10_find : GoodIn wsX10_place wsX10_find := goodIn_r _ [16, 17, 18, 19, 1, 2, 23, 24, 25, 26, 27, 28, 29, 30, 31, 32, 33, 34, 35, 36, 37, 38, 39, 40, 41, 42, 43, 44, 45, 46, 47, 48, 49, 50, 51, 52, 53, 54, 55, 56, 57, 58, 59, 60, 61, 62, 63, 64, 65, 66, 67] (by decide +kernel) (by decide +kernel)
set_option maxRecDepth 20000 in
theorem gX10_place_X10_find : GoodIn wsX10_place (wsV RX10 162 RX10 yX10_find wsX10_find) := goodIn_app (goodIn_of _ (by decide +kernel)) ggX10_place_X10_find
set_option maxRecDepth 20000 in
theorem ggX10_place_X10_common : GoodIn wsX10_place wsX10_common := goodIn_r _ [22] (by decide +kernel) (by decide +kernel)
set_option maxRecDepth 20000 in
theorem gX10_place_X10_common : GoodIn wsX10_place (va_wsS RX10 178 yX10_common wsX10_common) := goodIn_app (goodIn_of _ (by decide +kernel)) ggX10_place_X10_common
theorem dX10_place_0 : decode cX10_place 0 = .ok (.iload_n 1, 1) := by decide +kernel
theorem dX10_place_1 : decode cX10_place 1 = .ok (.invokestatic 168, 3) := by decide +kernel
theorem dX10_place_4 : decode cX10_place 4 = .ok (.ifCond .eq 19, 3) := by decide +kernel
theorem dX10_place_7 : decode cX10_place 7 = .ok (.iload_n 2, 1) := by decide +kernel
theorem dX10_place_8 : decode cX10_place 8 = .ok (.invokestatic 141, 3) := by decide +kernel
theorem dX10_place_11 : decode cX10_place 11 = .ok (.ifCond .eq 12, 3) := by decide +kernel
theorem dX10_place_14 : decode cX10_place 14 = .ok (.iload_n 3, 1) := by decide +kernel
theorem dX10_place_15 : decode cX10_place 15 = .ok (.iconst 0, 1) := by decide +kernel
theorem dX10_place_16 : decode cX10_place 16 = .ok (.iconst 1, 1) := by decide +kernel
theorem dX10_place_17 : decode cX10_place 17 = .ok (.invokestatic 117, 3) := by decide +kernel
theorem dX10_place_20 : decode cX10_place 20 = .ok (.ifCond .ne 5, 3) := by decide +kernel
theorem dX10_place_23 : decode cX10_place 23 = .ok (.iconst (-1), 1) := by decide +kernel
theorem dX10_place_24 : decode cX10_place 24 = .ok (.ireturn, 1) := by decide +kernel
theorem dX10_place_25 : decode cX10_place 25 = .ok (.aload_n 0, 1) := by decide +kernel
theorem dX10_place_26 : decode cX10_place 26 = .ok (.iload_n 1, 1) := by decide +kernel
theorem dX10_place_27 : decode cX10_place 27 = .ok (.iload_n 2, 1) := by decide +kernel
theorem dX10_place_28 : decode cX10_place 28 = .ok (.invokevirtual 162, 3) := by decide +kernel
theorem dX10_place_31 : decode cX10_place 31 = .ok (.aload_n 0, 1) := by decide +kernel
theorem dX10_place_32 : decode cX10_place 32 = .ok (.getfield 156, 3) := by decide +kernel
theorem dX10_place_35 : decode cX10_place 35 = .ok (.aload_n 0, 1) := by decide +kernel
theorem dX10_place_36 : decode cX10_place 36 = .ok (.getfield 159, 3) := by decide +kernel
theorem dX10_place_39 : decode cX10_place 39 = .ok (.invokestatic 178, 3) := by decide +kernel
theorem dX10_place_42 : decode cX10_place 42 = .ok (.istore 4, 2) := by decide +kernel
theorem dX10_place_44 : decode cX10_place 44 = .ok (.iload_n 3, 1) := by decide +kernel
theorem dX10_place_45 : decode cX10_place 45 = .ok (.ifCond .ne 10, 3) := by decide +kernel
theorem dX10_place_48 : decode cX10_place 48 = .ok (.aload_n 0, 1) := by decide +kernel
theorem dX10_place_49 : decode cX10_place 49 = .ok (.getfield 156, 3) := by decide +kernel
theorem dX10_place_52 : decode cX10_place 52 = .ok (.goto 7, 3) := by decide +kernel
theorem dX10_place_55 : decode cX10_place 55 = .ok (.aload_n 0, 1) := by decide +kernel
theorem dX10_place_56 : decode cX10_place 56 = .ok (.getfield 159, 3) := by decide +kernel
theorem dX10_place_59 : decode cX10_place 59 = .ok (.iload 4, 2) := by decide +kernel
theorem dX10_place_61 : decode cX10_place 61 = .ok (.idiv, 1) := by decide +kernel
theorem dX10_place_62 : decode cX10_place 62 = .ok (.ireturn, 1) := by decide +kernel
set_option maxRecDepth 20000 in
theorem ggX10_nearest_X10_isArm : GoodIn wsX10_nearest wsX10_isArm := goodIn_r _ [6, 7, 8, 5, 9] (by decide +kernel) (by decide +kernel)
set_option maxRecDepth 20000 in
theorem gX10_nearest_X10_isArm : GoodIn wsX10_nearest (va_wsS RX10 168 yX10_isArm wsX10_isArm) := goodIn_app (goodIn_of _ (by decide +kernel)) ggX10_nearest_X10_isArm
set_option maxRecDepth 20000 in
theorem ggX10_nearest_X10_find : GoodIn wsX10_nearest wsX10_find := goodIn_r _ [13, 14, 15, 16, 1, 2, 17, 18, 19, 20, 21, 22, 23, 24, 25, 26, 27, 28, 29, 30, 31, 32, 33, 34, 35, 36, 37, 38, 39, 40, 41, 42, 43, 44, 45, 46, 47, 48, 49, 50, 51, 52, 53, 54, 55, 56, 57, 58, 59, 60, 61] (by decide +kernel) (by decide +kernel)
set_option maxRecDepth 20000 in
theorem gX10_nearest_X10_find : GoodIn wsX10_nearest (wsV RX10 162 RX10 yX10_find wsX10_find) := goodIn_app (goodIn_of _ (by decide +kernel)) ggX10_nearest_X10_find
theorem dX10_nearest_0 : decode cX10_nearest 0 = .ok (.iload_n 1, 1) := by decide +kernel
theorem dX10_nearest_1 : decode cX10_nearest 1 = .ok (.invokestatic 168, 3) := by decide +kernel
theorem dX10_nearest_4 : decode cX10_nearest 4 = .ok (.ifCond .eq 15, 3) := by decide +kernel
theorem dX10_nearest_7 : decode cX10_nearest 7 = .ok (.iload_n 2, 1) := by decide +kernel
theorem dX10_nearest_8 : decode cX10_nearest 8 = .ok (.invokestatic 168, 3) := by decide +kernel
theorem dX10_nearest_11 : decode cX10_nearest 11 = .ok (.ifCond .eq 8, 3) := by decide +kernel
theorem dX10_nearest_14 : decode cX10_nearest 14 = .ok (.iload_n 1, 1) := by decide +kernel
theorem dX10_nearest_15 : decode cX10_nearest 15 = .ok (.iload_n 2, 1) := by decide +kernel
theorem dX10_nearest_16 : decode cX10_nearest 16 = .ok (.if_icmp .lt 5, 3) := by decide +kernel
theorem dX10_nearest_19 : decode cX10_nearest 19 = .ok (.iconst (-1), 1) := by decide +kernel
theorem dX10_nearest_20 : decode cX10_nearest 20 = .ok (.ireturn, 1) := by decide +kernel
theorem dX10_nearest_21 : decode cX10_nearest 21 = .ok (.iconst (-1), 1) := by decide +kernel
theorem dX10_nearest_22 : decode cX10_nearest 22 = .ok (.istore_n 3, 1) := by decide +kernel
theorem dX10_nearest_23 : decode cX10_nearest 23 = .ok (.lconst 0, 1) := by decide +kernel
theorem dX10_nearest_24 : decode cX10_nearest 24 = .ok (.lstore 4, 2) := by decide +kernel
theorem dX10_nearest_26 : decode cX10_nearest 26 = .ok (.lconst 1, 1) := by decide +kernel
theorem dX10_nearest_27 : decode cX10_nearest 27 = .ok (.lstore 6, 2) := by decide +kernel
theorem dX10_nearest_29 : decode cX10_nearest 29 = .ok (.iconst 0, 1) := by decide +kernel
theorem dX10_nearest_30 : decode cX10_nearest 30 = .ok (.istore 8, 2) := by decide +kernel
theorem dX10_nearest_32 : decode cX10_nearest 32 = .ok (.iload 8, 2) := by decide +kernel
theorem dX10_nearest_34 : decode cX10_nearest 34 = .ok (.sipush 360, 3) := by decide +kernel
theorem dX10_nearest_37 : decode cX10_nearest 37 = .ok (.if_icmp .ge 95, 3) := by decide +kernel
theorem dX10_nearest_40 : decode cX10_nearest 40 = .ok (.aload_n 0, 1) := by decide +kernel
theorem dX10_nearest_41 : decode cX10_nearest 41 = .ok (.iload_n 1, 1) := by decide +kernel
theorem dX10_nearest_42 : decode cX10_nearest 42 = .ok (.iload 8, 2) := by decide +kernel
theorem dX10_nearest_44 : decode cX10_nearest 44 = .ok (.invokevirtual 162, 3) := by decide +kernel
theorem dX10_nearest_47 : decode cX10_nearest 47 = .ok (.aload_n 0, 1) := by decide +kernel
theorem dX10_nearest_48 : decode cX10_nearest 48 = .ok (.getfield 156, 3) := by decide +kernel
theorem dX10_nearest_51 : decode cX10_nearest 51 = .ok (.i2l, 1) := by decide +kernel
theorem dX10_nearest_52 : decode cX10_nearest 52 = .ok (.lstore 9, 2) := by decide +kernel
theorem dX10_nearest_54 : decode cX10_nearest 54 = .ok (.aload_n 0, 1) := by decide +kernel
theorem dX10_nearest_55 : decode cX10_nearest 55 = .ok (.getfield 159, 3) := by decide +kernel
theorem dX10_nearest_58 : decode cX10_nearest 58 = .ok (.i2l, 1) := by decide +kernel
theorem dX10_nearest_59 : decode cX10_nearest 59 = .ok (.lstore 11, 2) := by decide +kernel
theorem dX10_nearest_61 : decode cX10_nearest 61 = .ok (.aload_n 0, 1) := by decide +kernel
theorem dX10_nearest_62 : decode cX10_nearest 62 = .ok (.iload_n 2, 1) := by decide +kernel
theorem dX10_nearest_63 : decode cX10_nearest 63 = .ok (.iload 8, 2) := by decide +kernel
theorem dX10_nearest_65 : decode cX10_nearest 65 = .ok (.invokevirtual 162, 3) := by decide +kernel
theorem dX10_nearest_68 : decode cX10_nearest 68 = .ok (.aload_n 0, 1) := by decide +kernel
theorem dX10_nearest_69 : decode cX10_nearest 69 = .ok (.getfield 156, 3) := by decide +kernel
theorem dX10_nearest_72 : decode cX10_nearest 72 = .ok (.i2l, 1) := by decide +kernel
theorem dX10_nearest_73 : decode cX10_nearest 73 = .ok (.lload 11, 2) := by decide +kernel
theorem dX10_nearest_75 : decode cX10_nearest 75 = .ok (.lmul, 1) := by decide +kernel
theorem dX10_nearest_76 : decode cX10_nearest 76 = .ok (.lload 9, 2) := by decide +kernel
theorem dX10_nearest_78 : decode cX10_nearest 78 = .ok (.aload_n 0, 1) := by decide +kernel
theorem dX10_nearest_79 : decode cX10_nearest 79 = .ok (.getfield 159, 3) := by decide +kernel
theorem dX10_nearest_82 : decode cX10_nearest 82 = .ok (.i2l, 1) := by decide +kernel
theorem dX10_nearest_83 : decode cX10_nearest 83 = .ok (.lmul, 1) := by decide +kernel
theorem dX10_nearest_84 : decode cX10_nearest 84 = .ok (.lsub, 1) := by decide +kernel
theorem dX10_nearest_85 : decode cX10_nearest 85 = .ok (.lstore 13, 2) := by decide +kernel
theorem dX10_nearest_87 : decode cX10_nearest 87 = .ok (.lload 11, 2) := by decide +kernel
theorem dX10_nearest_89 : decode cX10_nearest 89 = .ok (.aload_n 0, 1) := by decide +kernel
theorem dX10_nearest_90 : decode cX10_nearest 90 = .ok (.getfield 159, 3) := by decide +kernel
theorem dX10_nearest_93 : decode cX10_nearest 93 = .ok (.i2l, 1) := by decide +kernel
theorem dX10_nearest_94 : decode cX10_nearest 94 = .ok (.lmul, 1) := by decide +kernel
theorem dX10_nearest_95 : decode cX10_nearest 95 = .ok (.lstore 15, 2) := by decide +kernel
theorem dX10_nearest_97 : decode cX10_nearest 97 = .ok (.iload_n 3, 1) := by decide +kernel
theorem dX10_nearest_98 : decode cX10_nearest 98 = .ok (.ifCond .lt 17, 3) := by decide +kernel
theorem dX10_nearest_101 : decode cX10_nearest 101 = .ok (.lload 13, 2) := by decide +kernel
theorem dX10_nearest_103 : decode cX10_nearest 103 = .ok (.lload 6, 2) := by decide +kernel
theorem dX10_nearest_105 : decode cX10_nearest 105 = .ok (.lmul, 1) := by decide +kernel
theorem dX10_nearest_106 : decode cX10_nearest 106 = .ok (.lload 4, 2) := by decide +kernel
theorem dX10_nearest_108 : decode cX10_nearest 108 = .ok (.lload 15, 2) := by decide +kernel
theorem dX10_nearest_110 : decode cX10_nearest 110 = .ok (.lmul, 1) := by decide +kernel
theorem dX10_nearest_111 : decode cX10_nearest 111 = .ok (.lcmp, 1) := by decide +kernel
theorem dX10_nearest_112 : decode cX10_nearest 112 = .ok (.ifCond .ge 14, 3) := by decide +kernel
theorem dX10_nearest_115 : decode cX10_nearest 115 = .ok (.iload 8, 2) := by decide +kernel
theorem dX10_nearest_117 : decode cX10_nearest 117 = .ok (.istore_n 3, 1) := by decide +kernel
theorem dX10_nearest_118 : decode cX10_nearest 118 = .ok (.lload 13, 2) := by decide +kernel
theorem dX10_nearest_120 : decode cX10_nearest 120 = .ok (.lstore 4, 2) := by decide +kernel
theorem dX10_nearest_122 : decode cX10_nearest 122 = .ok (.lload 15, 2) := by decide +kernel
theorem dX10_nearest_124 : decode cX10_nearest 124 = .ok (.lstore 6, 2) := by decide +kernel
theorem dX10_nearest_126 : decode cX10_nearest 126 = .ok (.iinc 8 1, 3) := by decide +kernel
theorem dX10_nearest_129 : decode cX10_nearest 129 = .ok (.goto (-97), 3) := by decide +kernel
theorem dX10_nearest_132 : decode cX10_nearest 132 = .ok (.iload_n 3, 1) := by decide +kernel
theorem dX10_nearest_133 : decode cX10_nearest 133 = .ok (.ireturn, 1) := by decide +kernel
theorem dX10_placeInOrder_0 : decode cX10_placeInOrder 0 = .ok (.iconst 0, 1) := by decide +kernel
theorem dX10_placeInOrder_1 : decode cX10_placeInOrder 1 = .ok (.istore_n 2, 1) := by decide +kernel
theorem dX10_placeInOrder_2 : decode cX10_placeInOrder 2 = .ok (.iload_n 2, 1) := by decide +kernel
theorem dX10_placeInOrder_3 : decode cX10_placeInOrder 3 = .ok (.aload_n 0, 1) := by decide +kernel
theorem dX10_placeInOrder_4 : decode cX10_placeInOrder 4 = .ok (.getfield 47, 3) := by decide +kernel
theorem dX10_placeInOrder_7 : decode cX10_placeInOrder 7 = .ok (.if_icmp .ge 21, 3) := by decide +kernel
theorem dX10_placeInOrder_10 : decode cX10_placeInOrder 10 = .ok (.aload_n 0, 1) := by decide +kernel
theorem dX10_placeInOrder_11 : decode cX10_placeInOrder 11 = .ok (.getfield 50, 3) := by decide +kernel
theorem dX10_placeInOrder_14 : decode cX10_placeInOrder 14 = .ok (.iload_n 2, 1) := by decide +kernel
theorem dX10_placeInOrder_15 : decode cX10_placeInOrder 15 = .ok (.iaload, 1) := by decide +kernel
theorem dX10_placeInOrder_16 : decode cX10_placeInOrder 16 = .ok (.iload_n 1, 1) := by decide +kernel
theorem dX10_placeInOrder_17 : decode cX10_placeInOrder 17 = .ok (.if_icmp .ne 5, 3) := by decide +kernel
theorem dX10_placeInOrder_20 : decode cX10_placeInOrder 20 = .ok (.iload_n 2, 1) := by decide +kernel
theorem dX10_placeInOrder_21 : decode cX10_placeInOrder 21 = .ok (.ireturn, 1) := by decide +kernel
theorem dX10_placeInOrder_22 : decode cX10_placeInOrder 22 = .ok (.iinc 2 1, 3) := by decide +kernel
theorem dX10_placeInOrder_25 : decode cX10_placeInOrder 25 = .ok (.goto (-23), 3) := by decide +kernel
theorem dX10_placeInOrder_28 : decode cX10_placeInOrder 28 = .ok (.iconst (-1), 1) := by decide +kernel
theorem dX10_placeInOrder_29 : decode cX10_placeInOrder 29 = .ok (.ireturn, 1) := by decide +kernel
set_option maxRecDepth 20000 in
theorem ggX10_stop_X10_isSection : GoodIn wsX10_stop wsX10_isSection := goodIn_r _ [7, 8, 9, 6, 10] (by decide +kernel) (by decide +kernel)
set_option maxRecDepth 20000 in
theorem gX10_stop_X10_isSection : GoodIn wsX10_stop (va_wsS RX10 134 yX10_isSection wsX10_isSection) := goodIn_app (goodIn_of _ (by decide +kernel)) ggX10_stop_X10_isSection
set_option maxRecDepth 20000 in
theorem ggX10_stop_X10_placeInOrder : GoodIn wsX10_stop wsX10_placeInOrder := goodIn_r _ [14, 1, 2, 15, 16, 17, 18, 19, 20, 21, 22, 23, 24, 25, 26, 27, 28, 29, 30, 31, 32, 33, 34, 35, 36, 37, 38, 39, 40, 41, 42, 43, 44, 45, 46, 47, 48, 49, 50, 51, 52, 53, 54, 55, 56, 57, 58, 59] (by decide +kernel) (by decide +kernel)
set_option maxRecDepth 20000 in
theorem gX10_stop_X10_placeInOrder : GoodIn wsX10_stop (wsV RX10 181 RX10 yX10_placeInOrder wsX10_placeInOrder) := goodIn_app (goodIn_of _ (by decide +kernel)) ggX10_stop_X10_placeInOrder
theorem dX10_stop_0 : decode cX10_stop 0 = .ok (.iload_n 1, 1) := by decide +kernel
theorem dX10_stop_1 : decode cX10_stop 1 = .ok (.invokestatic 134, 3) := by decide +kernel
theorem dX10_stop_4 : decode cX10_stop 4 = .ok (.ifCond .ne 5, 3) := by decide +kernel
theorem dX10_stop_7 : decode cX10_stop 7 = .ok (.iconst (-1), 1) := by decide +kernel
theorem dX10_stop_8 : decode cX10_stop 8 = .ok (.ireturn, 1) := by decide +kernel
theorem dX10_stop_9 : decode cX10_stop 9 = .ok (.aload_n 0, 1) := by decide +kernel
theorem dX10_stop_10 : decode cX10_stop 10 = .ok (.iload_n 1, 1) := by decide +kernel
theorem dX10_stop_11 : decode cX10_stop 11 = .ok (.invokevirtual 181, 3) := by decide +kernel
theorem dX10_stop_14 : decode cX10_stop 14 = .ok (.istore_n 2, 1) := by decide +kernel
theorem dX10_stop_15 : decode cX10_stop 15 = .ok (.iload_n 2, 1) := by decide +kernel
theorem dX10_stop_16 : decode cX10_stop 16 = .ok (.ifCond .ge 6, 3) := by decide +kernel
theorem dX10_stop_19 : decode cX10_stop 19 = .ok (.bipush (-3), 2) := by decide +kernel
theorem dX10_stop_21 : decode cX10_stop 21 = .ok (.ireturn, 1) := by decide +kernel
theorem dX10_stop_22 : decode cX10_stop 22 = .ok (.aload_n 0, 1) := by decide +kernel
theorem dX10_stop_23 : decode cX10_stop 23 = .ok (.dup, 1) := by decide +kernel
theorem dX10_stop_24 : decode cX10_stop 24 = .ok (.getfield 47, 3) := by decide +kernel
theorem dX10_stop_27 : decode cX10_stop 27 = .ok (.iconst 1, 1) := by decide +kernel
theorem dX10_stop_28 : decode cX10_stop 28 = .ok (.isub, 1) := by decide +kernel
theorem dX10_stop_29 : decode cX10_stop 29 = .ok (.putfield 47, 3) := by decide +kernel
theorem dX10_stop_32 : decode cX10_stop 32 = .ok (.iload_n 2, 1) := by decide +kernel
theorem dX10_stop_33 : decode cX10_stop 33 = .ok (.istore_n 3, 1) := by decide +kernel
theorem dX10_stop_34 : decode cX10_stop 34 = .ok (.iload_n 3, 1) := by decide +kernel
theorem dX10_stop_35 : decode cX10_stop 35 = .ok (.aload_n 0, 1) := by decide +kernel
theorem dX10_stop_36 : decode cX10_stop 36 = .ok (.getfield 47, 3) := by decide +kernel
theorem dX10_stop_39 : decode cX10_stop 39 = .ok (.if_icmp .ge 23, 3) := by decide +kernel
theorem dX10_stop_42 : decode cX10_stop 42 = .ok (.aload_n 0, 1) := by decide +kernel
theorem dX10_stop_43 : decode cX10_stop 43 = .ok (.getfield 50, 3) := by decide +kernel
theorem dX10_stop_46 : decode cX10_stop 46 = .ok (.iload_n 3, 1) := by decide +kernel
theorem dX10_stop_47 : decode cX10_stop 47 = .ok (.aload_n 0, 1) := by decide +kernel
theorem dX10_stop_48 : decode cX10_stop 48 = .ok (.getfield 50, 3) := by decide +kernel
theorem dX10_stop_51 : decode cX10_stop 51 = .ok (.iload_n 3, 1) := by decide +kernel
theorem dX10_stop_52 : decode cX10_stop 52 = .ok (.iconst 1, 1) := by decide +kernel
theorem dX10_stop_53 : decode cX10_stop 53 = .ok (.iadd, 1) := by decide +kernel
theorem dX10_stop_54 : decode cX10_stop 54 = .ok (.iaload, 1) := by decide +kernel
theorem dX10_stop_55 : decode cX10_stop 55 = .ok (.iastore, 1) := by decide +kernel
theorem dX10_stop_56 : decode cX10_stop 56 = .ok (.iinc 3 1, 3) := by decide +kernel
theorem dX10_stop_59 : decode cX10_stop 59 = .ok (.goto (-25), 3) := by decide +kernel
theorem dX10_stop_62 : decode cX10_stop 62 = .ok (.aload_n 0, 1) := by decide +kernel
theorem dX10_stop_63 : decode cX10_stop 63 = .ok (.iload_n 2, 1) := by decide +kernel
theorem dX10_stop_64 : decode cX10_stop 64 = .ok (.aload_n 0, 1) := by decide +kernel
theorem dX10_stop_65 : decode cX10_stop 65 = .ok (.getfield 184, 3) := by decide +kernel
theorem dX10_stop_68 : decode cX10_stop 68 = .ok (.if_icmp .ge 12, 3) := by decide +kernel
theorem dX10_stop_71 : decode cX10_stop 71 = .ok (.aload_n 0, 1) := by decide +kernel
theorem dX10_stop_72 : decode cX10_stop 72 = .ok (.getfield 184, 3) := by decide +kernel
theorem dX10_stop_75 : decode cX10_stop 75 = .ok (.iconst 1, 1) := by decide +kernel
theorem dX10_stop_76 : decode cX10_stop 76 = .ok (.isub, 1) := by decide +kernel
theorem dX10_stop_77 : decode cX10_stop 77 = .ok (.goto 7, 3) := by decide +kernel
theorem dX10_stop_80 : decode cX10_stop 80 = .ok (.aload_n 0, 1) := by decide +kernel
theorem dX10_stop_81 : decode cX10_stop 81 = .ok (.getfield 184, 3) := by decide +kernel
theorem dX10_stop_84 : decode cX10_stop 84 = .ok (.putfield 184, 3) := by decide +kernel
theorem dX10_stop_87 : decode cX10_stop 87 = .ok (.aload_n 0, 1) := by decide +kernel
theorem dX10_stop_88 : decode cX10_stop 88 = .ok (.aload_n 0, 1) := by decide +kernel
theorem dX10_stop_89 : decode cX10_stop 89 = .ok (.getfield 184, 3) := by decide +kernel
theorem dX10_stop_92 : decode cX10_stop 92 = .ok (.aload_n 0, 1) := by decide +kernel
theorem dX10_stop_93 : decode cX10_stop 93 = .ok (.getfield 47, 3) := by decide +kernel
theorem dX10_stop_96 : decode cX10_stop 96 = .ok (.if_icmp .lt 7, 3) := by decide +kernel
theorem dX10_stop_99 : decode cX10_stop 99 = .ok (.iconst 0, 1) := by decide +kernel
theorem dX10_stop_100 : decode cX10_stop 100 = .ok (.goto 7, 3) := by decide +kernel
theorem dX10_stop_103 : decode cX10_stop 103 = .ok (.aload_n 0, 1) := by decide +kernel
theorem dX10_stop_104 : decode cX10_stop 104 = .ok (.getfield 184, 3) := by decide +kernel
theorem dX10_stop_107 : decode cX10_stop 107 = .ok (.putfield 184, 3) := by decide +kernel
theorem dX10_stop_110 : decode cX10_stop 110 = .ok (.aload_n 0, 1) := by decide +kernel
theorem dX10_stop_111 : decode cX10_stop 111 = .ok (.getfield 47, 3) := by decide +kernel
theorem dX10_stop_114 : decode cX10_stop 114 = .ok (.ireturn, 1) := by decide +kernel
set_option maxRecDepth 20000 in
theorem ggX10_start_X10_isSection : GoodIn wsX10_start wsX10_isSection := goodIn_r _ [6, 7, 8, 5, 9] (by decide +kernel) (by decide +kernel)
set_option maxRecDepth 20000 in
theorem gX10_start_X10_isSection : GoodIn wsX10_start (va_wsS RX10 134 yX10_isSection wsX10_isSection) := goodIn_app (goodIn_of _ (by decide +kernel)) ggX10_start_X10_isSection
set_option maxRecDepth 20000 in
theorem ggX10_start_X10_placeInOrder : GoodIn wsX10_start wsX10_placeInOrder := goodIn_r _ [13, 2, 1, 14, 15, 16, 17, 18, 19, 20, 21, 22, 23, 24, 25, 26, 27, 28, 29, 30, 31, 32, 33, 34, 35, 36, 37, 38, 39, 40, 41, 42, 43, 44, 45, 46, 47, 48, 49, 50, 51, 52, 53, 54, 55, 56, 57, 58] (by decide +kernel) (by decide +kernel)
set_option maxRecDepth 20000 in
theorem gX10_start_X10_placeInOrder : GoodIn wsX10_start (wsV RX10 181 RX10 yX10_placeInOrder wsX10_placeInOrder) := goodIn_app (goodIn_of _ (by decide +kernel)) ggX10_start_X10_placeInOrder
theorem dX10_start_0 : decode cX10_start 0 = .ok (.iload_n 1, 1) := by decide +kernel
theorem dX10_start_1 : decode cX10_start 1 = .ok (.invokestatic 134, 3) := by decide +kernel
theorem dX10_start_4 : decode cX10_start 4 = .ok (.ifCond .ne 5, 3) := by decide +kernel
theorem dX10_start_7 : decode cX10_start 7 = .ok (.iconst (-1), 1) := by decide +kernel
theorem dX10_start_8 : decode cX10_start 8 = .ok (.ireturn, 1) := by decide +kernel
theorem dX10_start_9 : decode cX10_start 9 = .ok (.aload_n 0, 1) := by decide +kernel
theorem dX10_start_10 : decode cX10_start 10 = .ok (.iload_n 1, 1) := by decide +kernel
theorem dX10_start_11 : decode cX10_start 11 = .ok (.invokevirtual 181, 3) := by decide +kernel
theorem dX10_start_14 : decode cX10_start 14 = .ok (.ifCond .lt 6, 3) := by decide +kernel
theorem dX10_start_17 : decode cX10_start 17 = .ok (.bipush (-3), 2) := by decide +kernel
theorem dX10_start_19 : decode cX10_start 19 = .ok (.ireturn, 1) := by decide +kernel
theorem dX10_start_20 : decode cX10_start 20 = .ok (.aload_n 0, 1) := by decide +kernel
theorem dX10_start_21 : decode cX10_start 21 = .ok (.getfield 50, 3) := by decide +kernel
theorem dX10_start_24 : decode cX10_start 24 = .ok (.aload_n 0, 1) := by decide +kernel
theorem dX10_start_25 : decode cX10_start 25 = .ok (.getfield 47, 3) := by decide +kernel
theorem dX10_start_28 : decode cX10_start 28 = .ok (.iload_n 1, 1) := by decide +kernel
theorem dX10_start_29 : decode cX10_start 29 = .ok (.iastore, 1) := by decide +kernel
theorem dX10_start_30 : decode cX10_start 30 = .ok (.aload_n 0, 1) := by decide +kernel
theorem dX10_start_31 : decode cX10_start 31 = .ok (.dup, 1) := by decide +kernel
theorem dX10_start_32 : decode cX10_start 32 = .ok (.getfield 47, 3) := by decide +kernel
theorem dX10_start_35 : decode cX10_start 35 = .ok (.iconst 1, 1) := by decide +kernel
theorem dX10_start_36 : decode cX10_start 36 = .ok (.iadd, 1) := by decide +kernel
theorem dX10_start_37 : decode cX10_start 37 = .ok (.putfield 47, 3) := by decide +kernel
theorem dX10_start_40 : decode cX10_start 40 = .ok (.aload_n 0, 1) := by decide +kernel
theorem dX10_start_41 : decode cX10_start 41 = .ok (.getfield 47, 3) := by decide +kernel
theorem dX10_start_44 : decode cX10_start 44 = .ok (.ireturn, 1) := by decide +kernel
set_option maxRecDepth 20000 in
theorem ggX10_job_X10_isSection : GoodIn wsX10_job wsX10_isSection := goodIn_r _ [5, 6, 7, 4, 8] (by decide +kernel) (by decide +kernel)
set_option maxRecDepth 20000 in
theorem gX10_job_X10_isSection : GoodIn wsX10_job (va_wsS RX10 134 yX10_isSection wsX10_isSection) := goodIn_app (goodIn_of _ (by decide +kernel)) ggX10_job_X10_isSection
set_option maxRecDepth 20000 in
theorem ggX10_job_X10_isJob : GoodIn wsX10_job wsX10_isJob := goodIn_r _ [11, 6, 7, 4, 8] (by decide +kernel) (by decide +kernel)
set_option maxRecDepth 20000 in
theorem gX10_job_X10_isJob : GoodIn wsX10_job (va_wsS RX10 187 yX10_isJob wsX10_isJob) := goodIn_app (goodIn_of _ (by decide +kernel)) ggX10_job_X10_isJob
theorem dX10_job_0 : decode cX10_job 0 = .ok (.iload_n 1, 1) := by decide +kernel
theorem dX10_job_1 : decode cX10_job 1 = .ok (.invokestatic 134, 3) := by decide +kernel
theorem dX10_job_4 : decode cX10_job 4 = .ok (.ifCond .eq 10, 3) := by decide +kernel
theorem dX10_job_7 : decode cX10_job 7 = .ok (.iload_n 2, 1) := by decide +kernel
theorem dX10_job_8 : decode cX10_job 8 = .ok (.invokestatic 187, 3) := by decide +kernel
theorem dX10_job_11 : decode cX10_job 11 = .ok (.ifCond .ne 5, 3) := by decide +kernel
theorem dX10_job_14 : decode cX10_job 14 = .ok (.iconst (-1), 1) := by decide +kernel
theorem dX10_job_15 : decode cX10_job 15 = .ok (.ireturn, 1) := by decide +kernel
theorem dX10_job_16 : decode cX10_job 16 = .ok (.aload_n 0, 1) := by decide +kernel
theorem dX10_job_17 : decode cX10_job 17 = .ok (.getfield 53, 3) := by decide +kernel
theorem dX10_job_20 : decode cX10_job 20 = .ok (.iload_n 1, 1) := by decide +kernel
theorem dX10_job_21 : decode cX10_job 21 = .ok (.iaload, 1) := by decide +kernel
theorem dX10_job_22 : decode cX10_job 22 = .ok (.istore_n 3, 1) := by decide +kernel
theorem dX10_job_23 : decode cX10_job 23 = .ok (.aload_n 0, 1) := by decide +kernel
theorem dX10_job_24 : decode cX10_job 24 = .ok (.getfield 53, 3) := by decide +kernel
theorem dX10_job_27 : decode cX10_job 27 = .ok (.iload_n 1, 1) := by decide +kernel
theorem dX10_job_28 : decode cX10_job 28 = .ok (.iload_n 2, 1) := by decide +kernel
theorem dX10_job_29 : decode cX10_job 29 = .ok (.iastore, 1) := by decide +kernel
theorem dX10_job_30 : decode cX10_job 30 = .ok (.iload_n 3, 1) := by decide +kernel
theorem dX10_job_31 : decode cX10_job 31 = .ok (.ireturn, 1) := by decide +kernel
set_option maxRecDepth 20000 in
theorem ggX10_aim_X10_isJob : GoodIn wsX10_aim wsX10_isJob := goodIn_r _ [6, 7, 8, 5, 9] (by decide +kernel) (by decide +kernel)
set_option maxRecDepth 20000 in
theorem gX10_aim_X10_isJob : GoodIn wsX10_aim (va_wsS RX10 187 yX10_isJob wsX10_isJob) := goodIn_app (goodIn_of _ (by decide +kernel)) ggX10_aim_X10_isJob
set_option maxRecDepth 20000 in
theorem ggX10_aim_X10_in : GoodIn wsX10_aim wsX10_in := goodIn_r _ [9] (by decide +kernel) (by decide +kernel)
set_option maxRecDepth 20000 in
theorem gX10_aim_X10_in : GoodIn wsX10_aim (va_wsS RX10 117 yX10_in wsX10_in) := goodIn_app (goodIn_of _ (by decide +kernel)) ggX10_aim_X10_in
theorem dX10_aim_0 : decode cX10_aim 0 = .ok (.iload_n 1, 1) := by decide +kernel
theorem dX10_aim_1 : decode cX10_aim 1 = .ok (.invokestatic 187, 3) := by decide +kernel
theorem dX10_aim_4 : decode cX10_aim 4 = .ok (.ifCond .eq 24, 3) := by decide +kernel
theorem dX10_aim_7 : decode cX10_aim 7 = .ok (.iload_n 2, 1) := by decide +kernel
theorem dX10_aim_8 : decode cX10_aim 8 = .ok (.bipush 100, 2) := by decide +kernel
theorem dX10_aim_10 : decode cX10_aim 10 = .ok (.sipush 900, 3) := by decide +kernel
theorem dX10_aim_13 : decode cX10_aim 13 = .ok (.invokestatic 117, 3) := by decide +kernel
theorem dX10_aim_16 : decode cX10_aim 16 = .ok (.ifCond .eq 12, 3) := by decide +kernel
theorem dX10_aim_19 : decode cX10_aim 19 = .ok (.iload_n 3, 1) := by decide +kernel
theorem dX10_aim_20 : decode cX10_aim 20 = .ok (.iconst 0, 1) := by decide +kernel
theorem dX10_aim_21 : decode cX10_aim 21 = .ok (.iconst 3, 1) := by decide +kernel
theorem dX10_aim_22 : decode cX10_aim 22 = .ok (.invokestatic 117, 3) := by decide +kernel
theorem dX10_aim_25 : decode cX10_aim 25 = .ok (.ifCond .ne 5, 3) := by decide +kernel
theorem dX10_aim_28 : decode cX10_aim 28 = .ok (.iconst (-1), 1) := by decide +kernel
theorem dX10_aim_29 : decode cX10_aim 29 = .ok (.ireturn, 1) := by decide +kernel
theorem dX10_aim_30 : decode cX10_aim 30 = .ok (.aload_n 0, 1) := by decide +kernel
theorem dX10_aim_31 : decode cX10_aim 31 = .ok (.getfield 59, 3) := by decide +kernel
theorem dX10_aim_34 : decode cX10_aim 34 = .ok (.iload_n 1, 1) := by decide +kernel
theorem dX10_aim_35 : decode cX10_aim 35 = .ok (.iload_n 2, 1) := by decide +kernel
theorem dX10_aim_36 : decode cX10_aim 36 = .ok (.iastore, 1) := by decide +kernel
theorem dX10_aim_37 : decode cX10_aim 37 = .ok (.aload_n 0, 1) := by decide +kernel
theorem dX10_aim_38 : decode cX10_aim 38 = .ok (.getfield 62, 3) := by decide +kernel
theorem dX10_aim_41 : decode cX10_aim 41 = .ok (.iload_n 1, 1) := by decide +kernel
theorem dX10_aim_42 : decode cX10_aim 42 = .ok (.iload_n 3, 1) := by decide +kernel
theorem dX10_aim_43 : decode cX10_aim 43 = .ok (.iastore, 1) := by decide +kernel
theorem dX10_aim_44 : decode cX10_aim 44 = .ok (.iconst 1, 1) := by decide +kernel
theorem dX10_aim_45 : decode cX10_aim 45 = .ok (.ireturn, 1) := by decide +kernel
set_option maxRecDepth 20000 in
theorem ggX10_glass_X10_in : GoodIn wsX10_glass wsX10_in := goodIn_r _ [6] (by decide +kernel) (by decide +kernel)
set_option maxRecDepth 20000 in
theorem gX10_glass_X10_in : GoodIn wsX10_glass (va_wsS RX10 117 yX10_in wsX10_in) := goodIn_app (goodIn_of _ (by decide +kernel)) ggX10_glass_X10_in
theorem dX10_glass_0 : decode cX10_glass 0 = .ok (.iload_n 1, 1) := by decide +kernel
theorem dX10_glass_1 : decode cX10_glass 1 = .ok (.iconst 0, 1) := by decide +kernel
theorem dX10_glass_2 : decode cX10_glass 2 = .ok (.iconst 3, 1) := by decide +kernel
theorem dX10_glass_3 : decode cX10_glass 3 = .ok (.invokestatic 117, 3) := by decide +kernel
theorem dX10_glass_6 : decode cX10_glass 6 = .ok (.ifCond .eq 13, 3) := by decide +kernel
theorem dX10_glass_9 : decode cX10_glass 9 = .ok (.iload_n 2, 1) := by decide +kernel
theorem dX10_glass_10 : decode cX10_glass 10 = .ok (.iconst 0, 1) := by decide +kernel
theorem dX10_glass_11 : decode cX10_glass 11 = .ok (.bipush 50, 2) := by decide +kernel
theorem dX10_glass_13 : decode cX10_glass 13 = .ok (.invokestatic 117, 3) := by decide +kernel
theorem dX10_glass_16 : decode cX10_glass 16 = .ok (.ifCond .ne 5, 3) := by decide +kernel
theorem dX10_glass_19 : decode cX10_glass 19 = .ok (.iconst (-1), 1) := by decide +kernel
theorem dX10_glass_20 : decode cX10_glass 20 = .ok (.ireturn, 1) := by decide +kernel
theorem dX10_glass_21 : decode cX10_glass 21 = .ok (.iload_n 1, 1) := by decide +kernel
theorem dX10_glass_22 : decode cX10_glass 22 = .ok (.aload_n 0, 1) := by decide +kernel
theorem dX10_glass_23 : decode cX10_glass 23 = .ok (.getfield 190, 3) := by decide +kernel
theorem dX10_glass_26 : decode cX10_glass 26 = .ok (.if_icmp .ne 6, 3) := by decide +kernel
theorem dX10_glass_29 : decode cX10_glass 29 = .ok (.bipush (-3), 2) := by decide +kernel
theorem dX10_glass_31 : decode cX10_glass 31 = .ok (.ireturn, 1) := by decide +kernel
theorem dX10_glass_32 : decode cX10_glass 32 = .ok (.aload_n 0, 1) := by decide +kernel
theorem dX10_glass_33 : decode cX10_glass 33 = .ok (.iload_n 1, 1) := by decide +kernel
theorem dX10_glass_34 : decode cX10_glass 34 = .ok (.putfield 190, 3) := by decide +kernel
theorem dX10_glass_37 : decode cX10_glass 37 = .ok (.aload_n 0, 1) := by decide +kernel
theorem dX10_glass_38 : decode cX10_glass 38 = .ok (.iload_n 2, 1) := by decide +kernel
theorem dX10_glass_39 : decode cX10_glass 39 = .ok (.putfield 193, 3) := by decide +kernel
theorem dX10_glass_42 : decode cX10_glass 42 = .ok (.iconst 1, 1) := by decide +kernel
theorem dX10_glass_43 : decode cX10_glass 43 = .ok (.ireturn, 1) := by decide +kernel
theorem dX10_sectionOf_0 : decode cX10_sectionOf 0 = .ok (.iconst 0, 1) := by decide +kernel
theorem dX10_sectionOf_1 : decode cX10_sectionOf 1 = .ok (.istore_n 2, 1) := by decide +kernel
theorem dX10_sectionOf_2 : decode cX10_sectionOf 2 = .ok (.iload_n 2, 1) := by decide +kernel
theorem dX10_sectionOf_3 : decode cX10_sectionOf 3 = .ok (.bipush 6, 2) := by decide +kernel
theorem dX10_sectionOf_5 : decode cX10_sectionOf 5 = .ok (.if_icmp .ge 21, 3) := by decide +kernel
theorem dX10_sectionOf_8 : decode cX10_sectionOf 8 = .ok (.aload_n 0, 1) := by decide +kernel
theorem dX10_sectionOf_9 : decode cX10_sectionOf 9 = .ok (.getfield 56, 3) := by decide +kernel
theorem dX10_sectionOf_12 : decode cX10_sectionOf 12 = .ok (.iload_n 2, 1) := by decide +kernel
theorem dX10_sectionOf_13 : decode cX10_sectionOf 13 = .ok (.iaload, 1) := by decide +kernel
theorem dX10_sectionOf_14 : decode cX10_sectionOf 14 = .ok (.iload_n 1, 1) := by decide +kernel
theorem dX10_sectionOf_15 : decode cX10_sectionOf 15 = .ok (.if_icmp .ne 5, 3) := by decide +kernel
theorem dX10_sectionOf_18 : decode cX10_sectionOf 18 = .ok (.iload_n 2, 1) := by decide +kernel
theorem dX10_sectionOf_19 : decode cX10_sectionOf 19 = .ok (.ireturn, 1) := by decide +kernel
theorem dX10_sectionOf_20 : decode cX10_sectionOf 20 = .ok (.iinc 2 1, 3) := by decide +kernel
theorem dX10_sectionOf_23 : decode cX10_sectionOf 23 = .ok (.goto (-21), 3) := by decide +kernel
theorem dX10_sectionOf_26 : decode cX10_sectionOf 26 = .ok (.iconst (-1), 1) := by decide +kernel
theorem dX10_sectionOf_27 : decode cX10_sectionOf 27 = .ok (.ireturn, 1) := by decide +kernel
set_option maxRecDepth 20000 in
theorem ggX10_mould_X10_isSection : GoodIn wsX10_mould wsX10_isSection := goodIn_r _ [5, 6, 7, 4, 8] (by decide +kernel) (by decide +kernel)
set_option maxRecDepth 20000 in
theorem gX10_mould_X10_isSection : GoodIn wsX10_mould (va_wsS RX10 134 yX10_isSection wsX10_isSection) := goodIn_app (goodIn_of _ (by decide +kernel)) ggX10_mould_X10_isSection
set_option maxRecDepth 20000 in
theorem ggX10_mould_X10_isMould : GoodIn wsX10_mould wsX10_isMould := goodIn_r _ [11, 6, 7, 4, 8] (by decide +kernel) (by decide +kernel)
set_option maxRecDepth 20000 in
theorem gX10_mould_X10_isMould : GoodIn wsX10_mould (va_wsS RX10 196 yX10_isMould wsX10_isMould) := goodIn_app (goodIn_of _ (by decide +kernel)) ggX10_mould_X10_isMould
set_option maxRecDepth 20000 in
theorem ggX10_mould_X10_sectionOf : GoodIn wsX10_mould wsX10_sectionOf := goodIn_r _ [15, 1, 16, 17, 18, 19, 20, 21, 22, 23, 24, 25, 26, 27, 28, 29, 30, 31, 32, 33, 34, 35, 36, 37, 38, 39, 40, 41, 42, 43, 44, 45, 46, 47, 48, 49, 50, 51, 52, 53, 54, 55, 56, 57, 58, 59, 60] (by decide +kernel) (by decide +kernel)
set_option maxRecDepth 20000 in
theorem gX10_mould_X10_sectionOf : GoodIn wsX10_mould (wsV RX10 199 RX10 yX10_sectionOf wsX10_sectionOf) := goodIn_app (goodIn_of _ (by decide +kernel)) ggX10_mould_X10_sectionOf
theorem dX10_mould_0 : decode cX10_mould 0 = .ok (.iload_n 1, 1) := by decide +kernel
theorem dX10_mould_1 : decode cX10_mould 1 = .ok (.invokestatic 134, 3) := by decide +kernel
theorem dX10_mould_4 : decode cX10_mould 4 = .ok (.ifCond .eq 10, 3) := by decide +kernel
theorem dX10_mould_7 : decode cX10_mould 7 = .ok (.iload_n 2, 1) := by decide +kernel
theorem dX10_mould_8 : decode cX10_mould 8 = .ok (.invokestatic 196, 3) := by decide +kernel
theorem dX10_mould_11 : decode cX10_mould 11 = .ok (.ifCond .ne 5, 3) := by decide +kernel
theorem dX10_mould_14 : decode cX10_mould 14 = .ok (.iconst (-1), 1) := by decide +kernel
theorem dX10_mould_15 : decode cX10_mould 15 = .ok (.ireturn, 1) := by decide +kernel
theorem dX10_mould_16 : decode cX10_mould 16 = .ok (.aload_n 0, 1) := by decide +kernel
theorem dX10_mould_17 : decode cX10_mould 17 = .ok (.iload_n 2, 1) := by decide +kernel
theorem dX10_mould_18 : decode cX10_mould 18 = .ok (.invokevirtual 199, 3) := by decide +kernel
theorem dX10_mould_21 : decode cX10_mould 21 = .ok (.ifCond .lt 6, 3) := by decide +kernel
theorem dX10_mould_24 : decode cX10_mould 24 = .ok (.bipush (-3), 2) := by decide +kernel
theorem dX10_mould_26 : decode cX10_mould 26 = .ok (.ireturn, 1) := by decide +kernel
theorem dX10_mould_27 : decode cX10_mould 27 = .ok (.aload_n 0, 1) := by decide +kernel
theorem dX10_mould_28 : decode cX10_mould 28 = .ok (.getfield 56, 3) := by decide +kernel
theorem dX10_mould_31 : decode cX10_mould 31 = .ok (.iload_n 1, 1) := by decide +kernel
theorem dX10_mould_32 : decode cX10_mould 32 = .ok (.iaload, 1) := by decide +kernel
theorem dX10_mould_33 : decode cX10_mould 33 = .ok (.istore_n 3, 1) := by decide +kernel
theorem dX10_mould_34 : decode cX10_mould 34 = .ok (.aload_n 0, 1) := by decide +kernel
theorem dX10_mould_35 : decode cX10_mould 35 = .ok (.getfield 56, 3) := by decide +kernel
theorem dX10_mould_38 : decode cX10_mould 38 = .ok (.iload_n 1, 1) := by decide +kernel
theorem dX10_mould_39 : decode cX10_mould 39 = .ok (.iload_n 2, 1) := by decide +kernel
theorem dX10_mould_40 : decode cX10_mould 40 = .ok (.iastore, 1) := by decide +kernel
theorem dX10_mould_41 : decode cX10_mould 41 = .ok (.iload_n 3, 1) := by decide +kernel
theorem dX10_mould_42 : decode cX10_mould 42 = .ok (.ireturn, 1) := by decide +kernel
set_option maxRecDepth 20000 in
theorem ggX10_swab_X10_isMould : GoodIn wsX10_swab wsX10_isMould := goodIn_r _ [5, 6, 7, 4, 8] (by decide +kernel) (by decide +kernel)
set_option maxRecDepth 20000 in
theorem gX10_swab_X10_isMould : GoodIn wsX10_swab (va_wsS RX10 196 yX10_isMould wsX10_isMould) := goodIn_app (goodIn_of _ (by decide +kernel)) ggX10_swab_X10_isMould
theorem dX10_swab_0 : decode cX10_swab 0 = .ok (.iload_n 1, 1) := by decide +kernel
theorem dX10_swab_1 : decode cX10_swab 1 = .ok (.invokestatic 196, 3) := by decide +kernel
theorem dX10_swab_4 : decode cX10_swab 4 = .ok (.ifCond .ne 5, 3) := by decide +kernel
theorem dX10_swab_7 : decode cX10_swab 7 = .ok (.iconst (-1), 1) := by decide +kernel
theorem dX10_swab_8 : decode cX10_swab 8 = .ok (.ireturn, 1) := by decide +kernel
theorem dX10_swab_9 : decode cX10_swab 9 = .ok (.aload_n 0, 1) := by decide +kernel
theorem dX10_swab_10 : decode cX10_swab 10 = .ok (.getfield 68, 3) := by decide +kernel
theorem dX10_swab_13 : decode cX10_swab 13 = .ok (.iload_n 1, 1) := by decide +kernel
theorem dX10_swab_14 : decode cX10_swab 14 = .ok (.iaload, 1) := by decide +kernel
theorem dX10_swab_15 : decode cX10_swab 15 = .ok (.istore_n 2, 1) := by decide +kernel
theorem dX10_swab_16 : decode cX10_swab 16 = .ok (.aload_n 0, 1) := by decide +kernel
theorem dX10_swab_17 : decode cX10_swab 17 = .ok (.getfield 68, 3) := by decide +kernel
theorem dX10_swab_20 : decode cX10_swab 20 = .ok (.iload_n 1, 1) := by decide +kernel
theorem dX10_swab_21 : decode cX10_swab 21 = .ok (.iconst 0, 1) := by decide +kernel
theorem dX10_swab_22 : decode cX10_swab 22 = .ok (.iastore, 1) := by decide +kernel
theorem dX10_swab_23 : decode cX10_swab 23 = .ok (.iload_n 2, 1) := by decide +kernel
theorem dX10_swab_24 : decode cX10_swab 24 = .ok (.ireturn, 1) := by decide +kernel
set_option maxRecDepth 20000 in
theorem ggX10_repair_X10_isMould : GoodIn wsX10_repair wsX10_isMould := goodIn_r _ [7, 8, 9, 6, 10] (by decide +kernel) (by decide +kernel)
set_option maxRecDepth 20000 in
theorem gX10_repair_X10_isMould : GoodIn wsX10_repair (va_wsS RX10 196 yX10_isMould wsX10_isMould) := goodIn_app (goodIn_of _ (by decide +kernel)) ggX10_repair_X10_isMould
theorem dX10_repair_0 : decode cX10_repair 0 = .ok (.iload_n 1, 1) := by decide +kernel
theorem dX10_repair_1 : decode cX10_repair 1 = .ok (.invokestatic 196, 3) := by decide +kernel
theorem dX10_repair_4 : decode cX10_repair 4 = .ok (.ifCond .ne 5, 3) := by decide +kernel
theorem dX10_repair_7 : decode cX10_repair 7 = .ok (.iconst (-1), 1) := by decide +kernel
theorem dX10_repair_8 : decode cX10_repair 8 = .ok (.ireturn, 1) := by decide +kernel
theorem dX10_repair_9 : decode cX10_repair 9 = .ok (.aload_n 0, 1) := by decide +kernel
theorem dX10_repair_10 : decode cX10_repair 10 = .ok (.getfield 65, 3) := by decide +kernel
theorem dX10_repair_13 : decode cX10_repair 13 = .ok (.iload_n 1, 1) := by decide +kernel
theorem dX10_repair_14 : decode cX10_repair 14 = .ok (.iaload, 1) := by decide +kernel
theorem dX10_repair_15 : decode cX10_repair 15 = .ok (.istore_n 2, 1) := by decide +kernel
theorem dX10_repair_16 : decode cX10_repair 16 = .ok (.aload_n 0, 1) := by decide +kernel
theorem dX10_repair_17 : decode cX10_repair 17 = .ok (.getfield 65, 3) := by decide +kernel
theorem dX10_repair_20 : decode cX10_repair 20 = .ok (.iload_n 1, 1) := by decide +kernel
theorem dX10_repair_21 : decode cX10_repair 21 = .ok (.iconst 0, 1) := by decide +kernel
theorem dX10_repair_22 : decode cX10_repair 22 = .ok (.iastore, 1) := by decide +kernel
theorem dX10_repair_23 : decode cX10_repair 23 = .ok (.aload_n 0, 1) := by decide +kernel
theorem dX10_repair_24 : decode cX10_repair 24 = .ok (.getfield 68, 3) := by decide +kernel
theorem dX10_repair_27 : decode cX10_repair 27 = .ok (.iload_n 1, 1) := by decide +kernel
theorem dX10_repair_28 : decode cX10_repair 28 = .ok (.iconst 0, 1) := by decide +kernel
theorem dX10_repair_29 : decode cX10_repair 29 = .ok (.iastore, 1) := by decide +kernel
theorem dX10_repair_30 : decode cX10_repair 30 = .ok (.aload_n 0, 1) := by decide +kernel
theorem dX10_repair_31 : decode cX10_repair 31 = .ok (.getfield 71, 3) := by decide +kernel
theorem dX10_repair_34 : decode cX10_repair 34 = .ok (.iload_n 1, 1) := by decide +kernel
theorem dX10_repair_35 : decode cX10_repair 35 = .ok (.iconst 0, 1) := by decide +kernel
theorem dX10_repair_36 : decode cX10_repair 36 = .ok (.bastore, 1) := by decide +kernel
theorem dX10_repair_37 : decode cX10_repair 37 = .ok (.iload_n 2, 1) := by decide +kernel
theorem dX10_repair_38 : decode cX10_repair 38 = .ok (.ireturn, 1) := by decide +kernel
set_option maxRecDepth 20000 in
theorem ggX10_pull_X10_isMould : GoodIn wsX10_pull wsX10_isMould := goodIn_r _ [5, 6, 7, 4, 8] (by decide +kernel) (by decide +kernel)
set_option maxRecDepth 20000 in
theorem gX10_pull_X10_isMould : GoodIn wsX10_pull (va_wsS RX10 196 yX10_isMould wsX10_isMould) := goodIn_app (goodIn_of _ (by decide +kernel)) ggX10_pull_X10_isMould
theorem dX10_pull_0 : decode cX10_pull 0 = .ok (.iload_n 1, 1) := by decide +kernel
theorem dX10_pull_1 : decode cX10_pull 1 = .ok (.invokestatic 196, 3) := by decide +kernel
end
section
theorem dX10_pull_4 : decode cX10_pull 4 = .ok (.ifCond .ne 5, 3) := by decide +kernel
theorem dX10_pull_7 : decode cX10_pull 7 = .ok (.iconst (-1), 1) := by decide +kernel
theorem dX10_pull_8 : decode cX10_pull 8 = .ok (.ireturn, 1) := by decide +kernel
theorem dX10_pull_9 : decode cX10_pull 9 = .ok (.aload_n 0, 1) := by decide +kernel
theorem dX10_pull_10 : decode cX10_pull 10 = .ok (.getfield 71, 3) := by decide +kernel
theorem dX10_pull_13 : decode cX10_pull 13 = .ok (.iload_n 1, 1) := by decide +kernel
theorem dX10_pull_14 : decode cX10_pull 14 = .ok (.baload, 1) := by decide +kernel
theorem dX10_pull_15 : decode cX10_pull 15 = .ok (.istore_n 3, 1) := by decide +kernel
theorem dX10_pull_16 : decode cX10_pull 16 = .ok (.aload_n 0, 1) := by decide +kernel
theorem dX10_pull_17 : decode cX10_pull 17 = .ok (.getfield 71, 3) := by decide +kernel
theorem dX10_pull_20 : decode cX10_pull 20 = .ok (.iload_n 1, 1) := by decide +kernel
theorem dX10_pull_21 : decode cX10_pull 21 = .ok (.iload_n 2, 1) := by decide +kernel
theorem dX10_pull_22 : decode cX10_pull 22 = .ok (.bastore, 1) := by decide +kernel
theorem dX10_pull_23 : decode cX10_pull 23 = .ok (.iload_n 3, 1) := by decide +kernel
theorem dX10_pull_24 : decode cX10_pull 24 = .ok (.iload_n 2, 1) := by decide +kernel
theorem dX10_pull_25 : decode cX10_pull 25 = .ok (.if_icmp .ne 7, 3) := by decide +kernel
theorem dX10_pull_28 : decode cX10_pull 28 = .ok (.iconst 0, 1) := by decide +kernel
theorem dX10_pull_29 : decode cX10_pull 29 = .ok (.goto 4, 3) := by decide +kernel
theorem dX10_pull_32 : decode cX10_pull 32 = .ok (.iconst 1, 1) := by decide +kernel
theorem dX10_pull_33 : decode cX10_pull 33 = .ok (.ireturn, 1) := by decide +kernel
set_option maxRecDepth 20000 in
theorem ggX10_rule_X10_in : GoodIn wsX10_rule wsX10_in := goodIn_r _ [6] (by decide +kernel) (by decide +kernel)
set_option maxRecDepth 20000 in
theorem gX10_rule_X10_in : GoodIn wsX10_rule (va_wsS RX10 117 yX10_in wsX10_in) := goodIn_app (goodIn_of _ (by decide +kernel)) ggX10_rule_X10_in
theorem dX10_rule_0 : decode cX10_rule 0 = .ok (.iload_n 1, 1) := by decide +kernel
theorem dX10_rule_1 : decode cX10_rule 1 = .ok (.iconst 0, 1) := by decide +kernel
theorem dX10_rule_2 : decode cX10_rule 2 = .ok (.iconst 1, 1) := by decide +kernel
theorem dX10_rule_3 : decode cX10_rule 3 = .ok (.invokestatic 117, 3) := by decide +kernel
theorem dX10_rule_6 : decode cX10_rule 6 = .ok (.ifCond .eq 34, 3) := by decide +kernel
theorem dX10_rule_9 : decode cX10_rule 9 = .ok (.iload_n 2, 1) := by decide +kernel
theorem dX10_rule_10 : decode cX10_rule 10 = .ok (.iload_n 1, 1) := by decide +kernel
theorem dX10_rule_11 : decode cX10_rule 11 = .ok (.ifCond .ne 9, 3) := by decide +kernel
theorem dX10_rule_14 : decode cX10_rule 14 = .ok (.sipush (-200), 3) := by decide +kernel
theorem dX10_rule_17 : decode cX10_rule 17 = .ok (.goto 4, 3) := by decide +kernel
theorem dX10_rule_20 : decode cX10_rule 20 = .ok (.iconst 1, 1) := by decide +kernel
theorem dX10_rule_21 : decode cX10_rule 21 = .ok (.iload_n 1, 1) := by decide +kernel
theorem dX10_rule_22 : decode cX10_rule 22 = .ok (.ifCond .ne 9, 3) := by decide +kernel
theorem dX10_rule_25 : decode cX10_rule 25 = .ok (.sipush 200, 3) := by decide +kernel
theorem dX10_rule_28 : decode cX10_rule 28 = .ok (.goto 6, 3) := by decide +kernel
theorem dX10_rule_31 : decode cX10_rule 31 = .ok (.sipush 1000, 3) := by decide +kernel
theorem dX10_rule_34 : decode cX10_rule 34 = .ok (.invokestatic 117, 3) := by decide +kernel
theorem dX10_rule_37 : decode cX10_rule 37 = .ok (.ifCond .ne 7, 3) := by decide +kernel
theorem dX10_rule_40 : decode cX10_rule 40 = .ok (.sipush (-1000), 3) := by decide +kernel
theorem dX10_rule_43 : decode cX10_rule 43 = .ok (.ireturn, 1) := by decide +kernel
theorem dX10_rule_44 : decode cX10_rule 44 = .ok (.iload_n 1, 1) := by decide +kernel
theorem dX10_rule_45 : decode cX10_rule 45 = .ok (.ifCond .ne 10, 3) := by decide +kernel
theorem dX10_rule_48 : decode cX10_rule 48 = .ok (.aload_n 0, 1) := by decide +kernel
theorem dX10_rule_49 : decode cX10_rule 49 = .ok (.getfield 202, 3) := by decide +kernel
theorem dX10_rule_52 : decode cX10_rule 52 = .ok (.goto 7, 3) := by decide +kernel
theorem dX10_rule_55 : decode cX10_rule 55 = .ok (.aload_n 0, 1) := by decide +kernel
theorem dX10_rule_56 : decode cX10_rule 56 = .ok (.getfield 84, 3) := by decide +kernel
theorem dX10_rule_59 : decode cX10_rule 59 = .ok (.istore_n 3, 1) := by decide +kernel
theorem dX10_rule_60 : decode cX10_rule 60 = .ok (.iload_n 1, 1) := by decide +kernel
theorem dX10_rule_61 : decode cX10_rule 61 = .ok (.ifCond .ne 11, 3) := by decide +kernel
theorem dX10_rule_64 : decode cX10_rule 64 = .ok (.aload_n 0, 1) := by decide +kernel
theorem dX10_rule_65 : decode cX10_rule 65 = .ok (.iload_n 2, 1) := by decide +kernel
theorem dX10_rule_66 : decode cX10_rule 66 = .ok (.putfield 202, 3) := by decide +kernel
theorem dX10_rule_69 : decode cX10_rule 69 = .ok (.goto 8, 3) := by decide +kernel
theorem dX10_rule_72 : decode cX10_rule 72 = .ok (.aload_n 0, 1) := by decide +kernel
theorem dX10_rule_73 : decode cX10_rule 73 = .ok (.iload_n 2, 1) := by decide +kernel
theorem dX10_rule_74 : decode cX10_rule 74 = .ok (.putfield 84, 3) := by decide +kernel
theorem dX10_rule_77 : decode cX10_rule 77 = .ok (.iload_n 3, 1) := by decide +kernel
theorem dX10_rule_78 : decode cX10_rule 78 = .ok (.ireturn, 1) := by decide +kernel
set_option maxRecDepth 20000 in
theorem ggX10_book_X10_isMould : GoodIn wsX10_book wsX10_isMould := goodIn_r _ [9, 10, 11, 8, 12] (by decide +kernel) (by decide +kernel)
set_option maxRecDepth 20000 in
theorem gX10_book_X10_isMould : GoodIn wsX10_book (va_wsS RX10 196 yX10_isMould wsX10_isMould) := goodIn_app (goodIn_of _ (by decide +kernel)) ggX10_book_X10_isMould
set_option maxRecDepth 20000 in
theorem ggX10_book_X10_sectionOf : GoodIn wsX10_book wsX10_sectionOf := goodIn_r _ [16, 17, 18, 19, 20, 21, 22, 23, 24, 25, 26, 27, 28, 29, 30, 31, 32, 33, 34, 35, 36, 37, 38, 39, 40, 41, 42, 43, 44, 45, 46, 47, 48, 49, 50, 51, 52, 53, 54, 55, 56, 57, 58, 59, 60, 61, 62] (by decide +kernel) (by decide +kernel)
set_option maxRecDepth 20000 in
theorem gX10_book_X10_sectionOf : GoodIn wsX10_book (wsV RX10 199 RX10 yX10_sectionOf wsX10_sectionOf) := goodIn_app (goodIn_of _ (by decide +kernel)) ggX10_book_X10_sectionOf
theorem dX10_book_0 : decode cX10_book 0 = .ok (.iload_n 1, 1) := by decide +kernel
theorem dX10_book_1 : decode cX10_book 1 = .ok (.invokestatic 196, 3) := by decide +kernel
theorem dX10_book_4 : decode cX10_book 4 = .ok (.ifCond .ne 5, 3) := by decide +kernel
theorem dX10_book_7 : decode cX10_book 7 = .ok (.iconst (-1), 1) := by decide +kernel
theorem dX10_book_8 : decode cX10_book 8 = .ok (.ireturn, 1) := by decide +kernel
theorem dX10_book_9 : decode cX10_book 9 = .ok (.iload_n 2, 1) := by decide +kernel
theorem dX10_book_10 : decode cX10_book 10 = .ok (.tableswitch 87 0 5 #[38, 45, 52, 67, 74, 81], 38) := by decide +kernel
theorem dX10_book_48 : decode cX10_book 48 = .ok (.aload_n 0, 1) := by decide +kernel
theorem dX10_book_49 : decode cX10_book 49 = .ok (.getfield 65, 3) := by decide +kernel
theorem dX10_book_52 : decode cX10_book 52 = .ok (.iload_n 1, 1) := by decide +kernel
theorem dX10_book_53 : decode cX10_book 53 = .ok (.iaload, 1) := by decide +kernel
theorem dX10_book_54 : decode cX10_book 54 = .ok (.ireturn, 1) := by decide +kernel
theorem dX10_book_55 : decode cX10_book 55 = .ok (.aload_n 0, 1) := by decide +kernel
theorem dX10_book_56 : decode cX10_book 56 = .ok (.getfield 68, 3) := by decide +kernel
theorem dX10_book_59 : decode cX10_book 59 = .ok (.iload_n 1, 1) := by decide +kernel
theorem dX10_book_60 : decode cX10_book 60 = .ok (.iaload, 1) := by decide +kernel
theorem dX10_book_61 : decode cX10_book 61 = .ok (.ireturn, 1) := by decide +kernel
theorem dX10_book_62 : decode cX10_book 62 = .ok (.aload_n 0, 1) := by decide +kernel
theorem dX10_book_63 : decode cX10_book 63 = .ok (.getfield 71, 3) := by decide +kernel
theorem dX10_book_66 : decode cX10_book 66 = .ok (.iload_n 1, 1) := by decide +kernel
theorem dX10_book_67 : decode cX10_book 67 = .ok (.baload, 1) := by decide +kernel
theorem dX10_book_68 : decode cX10_book 68 = .ok (.ifCond .eq 7, 3) := by decide +kernel
theorem dX10_book_71 : decode cX10_book 71 = .ok (.iconst 1, 1) := by decide +kernel
theorem dX10_book_72 : decode cX10_book 72 = .ok (.goto 4, 3) := by decide +kernel
theorem dX10_book_75 : decode cX10_book 75 = .ok (.iconst 0, 1) := by decide +kernel
theorem dX10_book_76 : decode cX10_book 76 = .ok (.ireturn, 1) := by decide +kernel
theorem dX10_book_77 : decode cX10_book 77 = .ok (.aload_n 0, 1) := by decide +kernel
theorem dX10_book_78 : decode cX10_book 78 = .ok (.getfield 75, 3) := by decide +kernel
theorem dX10_book_81 : decode cX10_book 81 = .ok (.iload_n 1, 1) := by decide +kernel
theorem dX10_book_82 : decode cX10_book 82 = .ok (.iaload, 1) := by decide +kernel
theorem dX10_book_83 : decode cX10_book 83 = .ok (.ireturn, 1) := by decide +kernel
theorem dX10_book_84 : decode cX10_book 84 = .ok (.aload_n 0, 1) := by decide +kernel
theorem dX10_book_85 : decode cX10_book 85 = .ok (.getfield 78, 3) := by decide +kernel
theorem dX10_book_88 : decode cX10_book 88 = .ok (.iload_n 1, 1) := by decide +kernel
theorem dX10_book_89 : decode cX10_book 89 = .ok (.iaload, 1) := by decide +kernel
theorem dX10_book_90 : decode cX10_book 90 = .ok (.ireturn, 1) := by decide +kernel
theorem dX10_book_91 : decode cX10_book 91 = .ok (.aload_n 0, 1) := by decide +kernel
theorem dX10_book_92 : decode cX10_book 92 = .ok (.iload_n 1, 1) := by decide +kernel
theorem dX10_book_93 : decode cX10_book 93 = .ok (.invokevirtual 199, 3) := by decide +kernel
theorem dX10_book_96 : decode cX10_book 96 = .ok (.ireturn, 1) := by decide +kernel
theorem dX10_book_97 : decode cX10_book 97 = .ok (.iconst (-1), 1) := by decide +kernel
theorem dX10_book_98 : decode cX10_book 98 = .ok (.ireturn, 1) := by decide +kernel
theorem dX10_judgeOf_0 : decode cX10_judgeOf 0 = .ok (.aload_n 0, 1) := by decide +kernel
theorem dX10_judgeOf_1 : decode cX10_judgeOf 1 = .ok (.getfield 105, 3) := by decide +kernel
theorem dX10_judgeOf_4 : decode cX10_judgeOf 4 = .ok (.iload_n 1, 1) := by decide +kernel
theorem dX10_judgeOf_5 : decode cX10_judgeOf 5 = .ok (.iaload, 1) := by decide +kernel
theorem dX10_judgeOf_6 : decode cX10_judgeOf 6 = .ok (.ifCond .le 10, 3) := by decide +kernel
theorem dX10_judgeOf_9 : decode cX10_judgeOf 9 = .ok (.aload_n 0, 1) := by decide +kernel
theorem dX10_judgeOf_10 : decode cX10_judgeOf 10 = .ok (.getfield 105, 3) := by decide +kernel
theorem dX10_judgeOf_13 : decode cX10_judgeOf 13 = .ok (.iload_n 1, 1) := by decide +kernel
theorem dX10_judgeOf_14 : decode cX10_judgeOf 14 = .ok (.iaload, 1) := by decide +kernel
theorem dX10_judgeOf_15 : decode cX10_judgeOf 15 = .ok (.ireturn, 1) := by decide +kernel
theorem dX10_judgeOf_16 : decode cX10_judgeOf 16 = .ok (.aload_n 0, 1) := by decide +kernel
theorem dX10_judgeOf_17 : decode cX10_judgeOf 17 = .ok (.getfield 99, 3) := by decide +kernel
theorem dX10_judgeOf_20 : decode cX10_judgeOf 20 = .ok (.iload_n 1, 1) := by decide +kernel
theorem dX10_judgeOf_21 : decode cX10_judgeOf 21 = .ok (.iaload, 1) := by decide +kernel
theorem dX10_judgeOf_22 : decode cX10_judgeOf 22 = .ok (.aload_n 0, 1) := by decide +kernel
theorem dX10_judgeOf_23 : decode cX10_judgeOf 23 = .ok (.getfield 102, 3) := by decide +kernel
theorem dX10_judgeOf_26 : decode cX10_judgeOf 26 = .ok (.iload_n 1, 1) := by decide +kernel
theorem dX10_judgeOf_27 : decode cX10_judgeOf 27 = .ok (.iaload, 1) := by decide +kernel
theorem dX10_judgeOf_28 : decode cX10_judgeOf 28 = .ok (.isub, 1) := by decide +kernel
theorem dX10_judgeOf_29 : decode cX10_judgeOf 29 = .ok (.istore_n 2, 1) := by decide +kernel
theorem dX10_judgeOf_30 : decode cX10_judgeOf 30 = .ok (.aload_n 0, 1) := by decide +kernel
theorem dX10_judgeOf_31 : decode cX10_judgeOf 31 = .ok (.getfield 71, 3) := by decide +kernel
theorem dX10_judgeOf_34 : decode cX10_judgeOf 34 = .ok (.aload_n 0, 1) := by decide +kernel
theorem dX10_judgeOf_35 : decode cX10_judgeOf 35 = .ok (.getfield 93, 3) := by decide +kernel
theorem dX10_judgeOf_38 : decode cX10_judgeOf 38 = .ok (.iload_n 1, 1) := by decide +kernel
theorem dX10_judgeOf_39 : decode cX10_judgeOf 39 = .ok (.iaload, 1) := by decide +kernel
theorem dX10_judgeOf_40 : decode cX10_judgeOf 40 = .ok (.baload, 1) := by decide +kernel
theorem dX10_judgeOf_41 : decode cX10_judgeOf 41 = .ok (.ifCond .eq 7, 3) := by decide +kernel
theorem dX10_judgeOf_44 : decode cX10_judgeOf 44 = .ok (.iconst 5, 1) := by decide +kernel
theorem dX10_judgeOf_45 : decode cX10_judgeOf 45 = .ok (.goto 21, 3) := by decide +kernel
theorem dX10_judgeOf_48 : decode cX10_judgeOf 48 = .ok (.iload_n 2, 1) := by decide +kernel
theorem dX10_judgeOf_49 : decode cX10_judgeOf 49 = .ok (.bipush 20, 2) := by decide +kernel
theorem dX10_judgeOf_51 : decode cX10_judgeOf 51 = .ok (.if_icmp .gt 9, 3) := by decide +kernel
theorem dX10_judgeOf_54 : decode cX10_judgeOf 54 = .ok (.iload_n 2, 1) := by decide +kernel
theorem dX10_judgeOf_55 : decode cX10_judgeOf 55 = .ok (.bipush (-20), 2) := by decide +kernel
theorem dX10_judgeOf_57 : decode cX10_judgeOf 57 = .ok (.if_icmp .ge 8, 3) := by decide +kernel
theorem dX10_judgeOf_60 : decode cX10_judgeOf 60 = .ok (.bipush 6, 2) := by decide +kernel
theorem dX10_judgeOf_62 : decode cX10_judgeOf 62 = .ok (.goto 4, 3) := by decide +kernel
theorem dX10_judgeOf_65 : decode cX10_judgeOf 65 = .ok (.iconst 0, 1) := by decide +kernel
theorem dX10_judgeOf_66 : decode cX10_judgeOf 66 = .ok (.ireturn, 1) := by decide +kernel
set_option maxRecDepth 20000 in
theorem ggX10_comeOff_X10_judgeOf : GoodIn wsX10_comeOff wsX10_judgeOf := goodIn_r _ [17, 12, 8, 7, 18, 3, 19, 20, 21, 22, 23, 24, 25, 26, 27, 28, 29, 30, 31, 32, 33, 34, 35, 36, 37, 38, 39, 40, 41, 42, 43, 44, 45, 46, 47, 48, 49, 50, 51, 52, 53, 54, 55, 56, 57, 58, 59, 60, 61, 62, 63] (by decide +kernel) (by decide +kernel)
set_option maxRecDepth 20000 in
theorem gX10_comeOff_X10_judgeOf : GoodIn wsX10_comeOff (wsV RX10 205 RX10 yX10_judgeOf wsX10_judgeOf) := goodIn_app (goodIn_of _ (by decide +kernel)) ggX10_comeOff_X10_judgeOf
theorem dX10_comeOff_0 : decode cX10_comeOff 0 = .ok (.aload_n 0, 1) := by decide +kernel
theorem dX10_comeOff_1 : decode cX10_comeOff 1 = .ok (.iconst 0, 1) := by decide +kernel
theorem dX10_comeOff_2 : decode cX10_comeOff 2 = .ok (.invokevirtual 205, 3) := by decide +kernel
theorem dX10_comeOff_5 : decode cX10_comeOff 5 = .ok (.istore_n 1, 1) := by decide +kernel
theorem dX10_comeOff_6 : decode cX10_comeOff 6 = .ok (.aload_n 0, 1) := by decide +kernel
theorem dX10_comeOff_7 : decode cX10_comeOff 7 = .ok (.getfield 108, 3) := by decide +kernel
theorem dX10_comeOff_10 : decode cX10_comeOff 10 = .ok (.iload_n 1, 1) := by decide +kernel
theorem dX10_comeOff_11 : decode cX10_comeOff 11 = .ok (.dup2, 1) := by decide +kernel
theorem dX10_comeOff_12 : decode cX10_comeOff 12 = .ok (.iaload, 1) := by decide +kernel
theorem dX10_comeOff_13 : decode cX10_comeOff 13 = .ok (.iconst 1, 1) := by decide +kernel
theorem dX10_comeOff_14 : decode cX10_comeOff 14 = .ok (.iadd, 1) := by decide +kernel
theorem dX10_comeOff_15 : decode cX10_comeOff 15 = .ok (.iastore, 1) := by decide +kernel
theorem dX10_comeOff_16 : decode cX10_comeOff 16 = .ok (.aload_n 0, 1) := by decide +kernel
theorem dX10_comeOff_17 : decode cX10_comeOff 17 = .ok (.getfield 75, 3) := by decide +kernel
theorem dX10_comeOff_20 : decode cX10_comeOff 20 = .ok (.aload_n 0, 1) := by decide +kernel
theorem dX10_comeOff_21 : decode cX10_comeOff 21 = .ok (.getfield 93, 3) := by decide +kernel
theorem dX10_comeOff_24 : decode cX10_comeOff 24 = .ok (.iconst 0, 1) := by decide +kernel
theorem dX10_comeOff_25 : decode cX10_comeOff 25 = .ok (.iaload, 1) := by decide +kernel
theorem dX10_comeOff_26 : decode cX10_comeOff 26 = .ok (.dup2, 1) := by decide +kernel
theorem dX10_comeOff_27 : decode cX10_comeOff 27 = .ok (.iaload, 1) := by decide +kernel
theorem dX10_comeOff_28 : decode cX10_comeOff 28 = .ok (.iload_n 1, 1) := by decide +kernel
theorem dX10_comeOff_29 : decode cX10_comeOff 29 = .ok (.ifCond .ne 7, 3) := by decide +kernel
theorem dX10_comeOff_32 : decode cX10_comeOff 32 = .ok (.iconst 1, 1) := by decide +kernel
theorem dX10_comeOff_33 : decode cX10_comeOff 33 = .ok (.goto 4, 3) := by decide +kernel
theorem dX10_comeOff_36 : decode cX10_comeOff 36 = .ok (.iconst 0, 1) := by decide +kernel
theorem dX10_comeOff_37 : decode cX10_comeOff 37 = .ok (.iadd, 1) := by decide +kernel
theorem dX10_comeOff_38 : decode cX10_comeOff 38 = .ok (.iastore, 1) := by decide +kernel
theorem dX10_comeOff_39 : decode cX10_comeOff 39 = .ok (.aload_n 0, 1) := by decide +kernel
theorem dX10_comeOff_40 : decode cX10_comeOff 40 = .ok (.getfield 78, 3) := by decide +kernel
theorem dX10_comeOff_43 : decode cX10_comeOff 43 = .ok (.aload_n 0, 1) := by decide +kernel
theorem dX10_comeOff_44 : decode cX10_comeOff 44 = .ok (.getfield 93, 3) := by decide +kernel
theorem dX10_comeOff_47 : decode cX10_comeOff 47 = .ok (.iconst 0, 1) := by decide +kernel
theorem dX10_comeOff_48 : decode cX10_comeOff 48 = .ok (.iaload, 1) := by decide +kernel
theorem dX10_comeOff_49 : decode cX10_comeOff 49 = .ok (.dup2, 1) := by decide +kernel
theorem dX10_comeOff_50 : decode cX10_comeOff 50 = .ok (.iaload, 1) := by decide +kernel
theorem dX10_comeOff_51 : decode cX10_comeOff 51 = .ok (.iload_n 1, 1) := by decide +kernel
theorem dX10_comeOff_52 : decode cX10_comeOff 52 = .ok (.ifCond .ne 7, 3) := by decide +kernel
theorem dX10_comeOff_55 : decode cX10_comeOff 55 = .ok (.iconst 0, 1) := by decide +kernel
theorem dX10_comeOff_56 : decode cX10_comeOff 56 = .ok (.goto 4, 3) := by decide +kernel
theorem dX10_comeOff_59 : decode cX10_comeOff 59 = .ok (.iconst 1, 1) := by decide +kernel
theorem dX10_comeOff_60 : decode cX10_comeOff 60 = .ok (.iadd, 1) := by decide +kernel
theorem dX10_comeOff_61 : decode cX10_comeOff 61 = .ok (.iastore, 1) := by decide +kernel
theorem dX10_comeOff_62 : decode cX10_comeOff 62 = .ok (.aload_n 0, 1) := by decide +kernel
theorem dX10_comeOff_63 : decode cX10_comeOff 63 = .ok (.getfield 87, 3) := by decide +kernel
theorem dX10_comeOff_66 : decode cX10_comeOff 66 = .ok (.iconst 0, 1) := by decide +kernel
theorem dX10_comeOff_67 : decode cX10_comeOff 67 = .ok (.iaload, 1) := by decide +kernel
theorem dX10_comeOff_68 : decode cX10_comeOff 68 = .ok (.iconst 4, 1) := by decide +kernel
theorem dX10_comeOff_69 : decode cX10_comeOff 69 = .ok (.irem, 1) := by decide +kernel
theorem dX10_comeOff_70 : decode cX10_comeOff 70 = .ok (.ifCond .ne 65, 3) := by decide +kernel
theorem dX10_comeOff_73 : decode cX10_comeOff 73 = .ok (.aload_n 0, 1) := by decide +kernel
theorem dX10_comeOff_74 : decode cX10_comeOff 74 = .ok (.dup, 1) := by decide +kernel
theorem dX10_comeOff_75 : decode cX10_comeOff 75 = .ok (.getfield 81, 3) := by decide +kernel
theorem dX10_comeOff_78 : decode cX10_comeOff 78 = .ok (.aload_n 0, 1) := by decide +kernel
theorem dX10_comeOff_79 : decode cX10_comeOff 79 = .ok (.getfield 102, 3) := by decide +kernel
theorem dX10_comeOff_82 : decode cX10_comeOff 82 = .ok (.iconst 0, 1) := by decide +kernel
theorem dX10_comeOff_83 : decode cX10_comeOff 83 = .ok (.iaload, 1) := by decide +kernel
theorem dX10_comeOff_84 : decode cX10_comeOff 84 = .ok (.aload_n 0, 1) := by decide +kernel
theorem dX10_comeOff_85 : decode cX10_comeOff 85 = .ok (.getfield 99, 3) := by decide +kernel
theorem dX10_comeOff_88 : decode cX10_comeOff 88 = .ok (.iconst 0, 1) := by decide +kernel
theorem dX10_comeOff_89 : decode cX10_comeOff 89 = .ok (.iaload, 1) := by decide +kernel
theorem dX10_comeOff_90 : decode cX10_comeOff 90 = .ok (.isub, 1) := by decide +kernel
theorem dX10_comeOff_91 : decode cX10_comeOff 91 = .ok (.iconst 2, 1) := by decide +kernel
theorem dX10_comeOff_92 : decode cX10_comeOff 92 = .ok (.idiv, 1) := by decide +kernel
theorem dX10_comeOff_93 : decode cX10_comeOff 93 = .ok (.iadd, 1) := by decide +kernel
theorem dX10_comeOff_94 : decode cX10_comeOff 94 = .ok (.putfield 81, 3) := by decide +kernel
theorem dX10_comeOff_97 : decode cX10_comeOff 97 = .ok (.aload_n 0, 1) := by decide +kernel
theorem dX10_comeOff_98 : decode cX10_comeOff 98 = .ok (.aload_n 0, 1) := by decide +kernel
theorem dX10_comeOff_99 : decode cX10_comeOff 99 = .ok (.getfield 81, 3) := by decide +kernel
theorem dX10_comeOff_102 : decode cX10_comeOff 102 = .ok (.bipush 100, 2) := by decide +kernel
theorem dX10_comeOff_104 : decode cX10_comeOff 104 = .ok (.if_icmp .ge 8, 3) := by decide +kernel
theorem dX10_comeOff_107 : decode cX10_comeOff 107 = .ok (.bipush 100, 2) := by decide +kernel
theorem dX10_comeOff_109 : decode cX10_comeOff 109 = .ok (.goto 23, 3) := by decide +kernel
theorem dX10_comeOff_112 : decode cX10_comeOff 112 = .ok (.aload_n 0, 1) := by decide +kernel
theorem dX10_comeOff_113 : decode cX10_comeOff 113 = .ok (.getfield 81, 3) := by decide +kernel
theorem dX10_comeOff_116 : decode cX10_comeOff 116 = .ok (.sipush 900, 3) := by decide +kernel
theorem dX10_comeOff_119 : decode cX10_comeOff 119 = .ok (.if_icmp .le 9, 3) := by decide +kernel
theorem dX10_comeOff_122 : decode cX10_comeOff 122 = .ok (.sipush 900, 3) := by decide +kernel
theorem dX10_comeOff_125 : decode cX10_comeOff 125 = .ok (.goto 7, 3) := by decide +kernel
theorem dX10_comeOff_128 : decode cX10_comeOff 128 = .ok (.aload_n 0, 1) := by decide +kernel
theorem dX10_comeOff_129 : decode cX10_comeOff 129 = .ok (.getfield 81, 3) := by decide +kernel
theorem dX10_comeOff_132 : decode cX10_comeOff 132 = .ok (.putfield 81, 3) := by decide +kernel
theorem dX10_comeOff_135 : decode cX10_comeOff 135 = .ok (.aload_n 0, 1) := by decide +kernel
theorem dX10_comeOff_136 : decode cX10_comeOff 136 = .ok (.dup, 1) := by decide +kernel
theorem dX10_comeOff_137 : decode cX10_comeOff 137 = .ok (.getfield 208, 3) := by decide +kernel
theorem dX10_comeOff_140 : decode cX10_comeOff 140 = .ok (.iconst 1, 1) := by decide +kernel
theorem dX10_comeOff_141 : decode cX10_comeOff 141 = .ok (.isub, 1) := by decide +kernel
theorem dX10_comeOff_142 : decode cX10_comeOff 142 = .ok (.putfield 208, 3) := by decide +kernel
theorem dX10_comeOff_145 : decode cX10_comeOff 145 = .ok (.iconst 0, 1) := by decide +kernel
theorem dX10_comeOff_146 : decode cX10_comeOff 146 = .ok (.istore_n 2, 1) := by decide +kernel
theorem dX10_comeOff_147 : decode cX10_comeOff 147 = .ok (.iload_n 2, 1) := by decide +kernel
theorem dX10_comeOff_148 : decode cX10_comeOff 148 = .ok (.aload_n 0, 1) := by decide +kernel
theorem dX10_comeOff_149 : decode cX10_comeOff 149 = .ok (.getfield 208, 3) := by decide +kernel
theorem dX10_comeOff_152 : decode cX10_comeOff 152 = .ok (.if_icmp .ge 107, 3) := by decide +kernel
theorem dX10_comeOff_155 : decode cX10_comeOff 155 = .ok (.aload_n 0, 1) := by decide +kernel
theorem dX10_comeOff_156 : decode cX10_comeOff 156 = .ok (.getfield 87, 3) := by decide +kernel
theorem dX10_comeOff_159 : decode cX10_comeOff 159 = .ok (.iload_n 2, 1) := by decide +kernel
theorem dX10_comeOff_160 : decode cX10_comeOff 160 = .ok (.aload_n 0, 1) := by decide +kernel
theorem dX10_comeOff_161 : decode cX10_comeOff 161 = .ok (.getfield 87, 3) := by decide +kernel
theorem dX10_comeOff_164 : decode cX10_comeOff 164 = .ok (.iload_n 2, 1) := by decide +kernel
theorem dX10_comeOff_165 : decode cX10_comeOff 165 = .ok (.iconst 1, 1) := by decide +kernel
theorem dX10_comeOff_166 : decode cX10_comeOff 166 = .ok (.iadd, 1) := by decide +kernel
theorem dX10_comeOff_167 : decode cX10_comeOff 167 = .ok (.iaload, 1) := by decide +kernel
theorem dX10_comeOff_168 : decode cX10_comeOff 168 = .ok (.iastore, 1) := by decide +kernel
theorem dX10_comeOff_169 : decode cX10_comeOff 169 = .ok (.aload_n 0, 1) := by decide +kernel
theorem dX10_comeOff_170 : decode cX10_comeOff 170 = .ok (.getfield 90, 3) := by decide +kernel
theorem dX10_comeOff_173 : decode cX10_comeOff 173 = .ok (.iload_n 2, 1) := by decide +kernel
theorem dX10_comeOff_174 : decode cX10_comeOff 174 = .ok (.aload_n 0, 1) := by decide +kernel
theorem dX10_comeOff_175 : decode cX10_comeOff 175 = .ok (.getfield 90, 3) := by decide +kernel
theorem dX10_comeOff_178 : decode cX10_comeOff 178 = .ok (.iload_n 2, 1) := by decide +kernel
theorem dX10_comeOff_179 : decode cX10_comeOff 179 = .ok (.iconst 1, 1) := by decide +kernel
theorem dX10_comeOff_180 : decode cX10_comeOff 180 = .ok (.iadd, 1) := by decide +kernel
theorem dX10_comeOff_181 : decode cX10_comeOff 181 = .ok (.iaload, 1) := by decide +kernel
theorem dX10_comeOff_182 : decode cX10_comeOff 182 = .ok (.iastore, 1) := by decide +kernel
theorem dX10_comeOff_183 : decode cX10_comeOff 183 = .ok (.aload_n 0, 1) := by decide +kernel
theorem dX10_comeOff_184 : decode cX10_comeOff 184 = .ok (.getfield 93, 3) := by decide +kernel
theorem dX10_comeOff_187 : decode cX10_comeOff 187 = .ok (.iload_n 2, 1) := by decide +kernel
theorem dX10_comeOff_188 : decode cX10_comeOff 188 = .ok (.aload_n 0, 1) := by decide +kernel
theorem dX10_comeOff_189 : decode cX10_comeOff 189 = .ok (.getfield 93, 3) := by decide +kernel
theorem dX10_comeOff_192 : decode cX10_comeOff 192 = .ok (.iload_n 2, 1) := by decide +kernel
theorem dX10_comeOff_193 : decode cX10_comeOff 193 = .ok (.iconst 1, 1) := by decide +kernel
theorem dX10_comeOff_194 : decode cX10_comeOff 194 = .ok (.iadd, 1) := by decide +kernel
theorem dX10_comeOff_195 : decode cX10_comeOff 195 = .ok (.iaload, 1) := by decide +kernel
theorem dX10_comeOff_196 : decode cX10_comeOff 196 = .ok (.iastore, 1) := by decide +kernel
theorem dX10_comeOff_197 : decode cX10_comeOff 197 = .ok (.aload_n 0, 1) := by decide +kernel
theorem dX10_comeOff_198 : decode cX10_comeOff 198 = .ok (.getfield 96, 3) := by decide +kernel
theorem dX10_comeOff_201 : decode cX10_comeOff 201 = .ok (.iload_n 2, 1) := by decide +kernel
theorem dX10_comeOff_202 : decode cX10_comeOff 202 = .ok (.aload_n 0, 1) := by decide +kernel
theorem dX10_comeOff_203 : decode cX10_comeOff 203 = .ok (.getfield 96, 3) := by decide +kernel
theorem dX10_comeOff_206 : decode cX10_comeOff 206 = .ok (.iload_n 2, 1) := by decide +kernel
theorem dX10_comeOff_207 : decode cX10_comeOff 207 = .ok (.iconst 1, 1) := by decide +kernel
theorem dX10_comeOff_208 : decode cX10_comeOff 208 = .ok (.iadd, 1) := by decide +kernel
theorem dX10_comeOff_209 : decode cX10_comeOff 209 = .ok (.iaload, 1) := by decide +kernel
theorem dX10_comeOff_210 : decode cX10_comeOff 210 = .ok (.iastore, 1) := by decide +kernel
theorem dX10_comeOff_211 : decode cX10_comeOff 211 = .ok (.aload_n 0, 1) := by decide +kernel
theorem dX10_comeOff_212 : decode cX10_comeOff 212 = .ok (.getfield 99, 3) := by decide +kernel
theorem dX10_comeOff_215 : decode cX10_comeOff 215 = .ok (.iload_n 2, 1) := by decide +kernel
theorem dX10_comeOff_216 : decode cX10_comeOff 216 = .ok (.aload_n 0, 1) := by decide +kernel
theorem dX10_comeOff_217 : decode cX10_comeOff 217 = .ok (.getfield 99, 3) := by decide +kernel
theorem dX10_comeOff_220 : decode cX10_comeOff 220 = .ok (.iload_n 2, 1) := by decide +kernel
theorem dX10_comeOff_221 : decode cX10_comeOff 221 = .ok (.iconst 1, 1) := by decide +kernel
theorem dX10_comeOff_222 : decode cX10_comeOff 222 = .ok (.iadd, 1) := by decide +kernel
theorem dX10_comeOff_223 : decode cX10_comeOff 223 = .ok (.iaload, 1) := by decide +kernel
theorem dX10_comeOff_224 : decode cX10_comeOff 224 = .ok (.iastore, 1) := by decide +kernel
theorem dX10_comeOff_225 : decode cX10_comeOff 225 = .ok (.aload_n 0, 1) := by decide +kernel
theorem dX10_comeOff_226 : decode cX10_comeOff 226 = .ok (.getfield 102, 3) := by decide +kernel
theorem dX10_comeOff_229 : decode cX10_comeOff 229 = .ok (.iload_n 2, 1) := by decide +kernel
theorem dX10_comeOff_230 : decode cX10_comeOff 230 = .ok (.aload_n 0, 1) := by decide +kernel
theorem dX10_comeOff_231 : decode cX10_comeOff 231 = .ok (.getfield 102, 3) := by decide +kernel
theorem dX10_comeOff_234 : decode cX10_comeOff 234 = .ok (.iload_n 2, 1) := by decide +kernel
theorem dX10_comeOff_235 : decode cX10_comeOff 235 = .ok (.iconst 1, 1) := by decide +kernel
theorem dX10_comeOff_236 : decode cX10_comeOff 236 = .ok (.iadd, 1) := by decide +kernel
theorem dX10_comeOff_237 : decode cX10_comeOff 237 = .ok (.iaload, 1) := by decide +kernel
theorem dX10_comeOff_238 : decode cX10_comeOff 238 = .ok (.iastore, 1) := by decide +kernel
theorem dX10_comeOff_239 : decode cX10_comeOff 239 = .ok (.aload_n 0, 1) := by decide +kernel
theorem dX10_comeOff_240 : decode cX10_comeOff 240 = .ok (.getfield 105, 3) := by decide +kernel
theorem dX10_comeOff_243 : decode cX10_comeOff 243 = .ok (.iload_n 2, 1) := by decide +kernel
theorem dX10_comeOff_244 : decode cX10_comeOff 244 = .ok (.aload_n 0, 1) := by decide +kernel
theorem dX10_comeOff_245 : decode cX10_comeOff 245 = .ok (.getfield 105, 3) := by decide +kernel
theorem dX10_comeOff_248 : decode cX10_comeOff 248 = .ok (.iload_n 2, 1) := by decide +kernel
theorem dX10_comeOff_249 : decode cX10_comeOff 249 = .ok (.iconst 1, 1) := by decide +kernel
theorem dX10_comeOff_250 : decode cX10_comeOff 250 = .ok (.iadd, 1) := by decide +kernel
theorem dX10_comeOff_251 : decode cX10_comeOff 251 = .ok (.iaload, 1) := by decide +kernel
theorem dX10_comeOff_252 : decode cX10_comeOff 252 = .ok (.iastore, 1) := by decide +kernel
theorem dX10_comeOff_253 : decode cX10_comeOff 253 = .ok (.iinc 2 1, 3) := by decide +kernel
theorem dX10_comeOff_256 : decode cX10_comeOff 256 = .ok (.goto (-109), 3) := by decide +kernel
theorem dX10_comeOff_259 : decode cX10_comeOff 259 = .ok (.return_, 1) := by decide +kernel
theorem dX10_cutOne_0 : decode cX10_cutOne 0 = .ok (.aload_n 0, 1) := by decide +kernel
theorem dX10_cutOne_1 : decode cX10_cutOne 1 = .ok (.getfield 50, 3) := by decide +kernel
theorem dX10_cutOne_4 : decode cX10_cutOne 4 = .ok (.aload_n 0, 1) := by decide +kernel
theorem dX10_cutOne_5 : decode cX10_cutOne 5 = .ok (.getfield 184, 3) := by decide +kernel
theorem dX10_cutOne_8 : decode cX10_cutOne 8 = .ok (.iaload, 1) := by decide +kernel
theorem dX10_cutOne_9 : decode cX10_cutOne 9 = .ok (.istore_n 1, 1) := by decide +kernel
theorem dX10_cutOne_10 : decode cX10_cutOne 10 = .ok (.aload_n 0, 1) := by decide +kernel
theorem dX10_cutOne_11 : decode cX10_cutOne 11 = .ok (.getfield 56, 3) := by decide +kernel
theorem dX10_cutOne_14 : decode cX10_cutOne 14 = .ok (.iload_n 1, 1) := by decide +kernel
theorem dX10_cutOne_15 : decode cX10_cutOne 15 = .ok (.iaload, 1) := by decide +kernel
theorem dX10_cutOne_16 : decode cX10_cutOne 16 = .ok (.istore_n 2, 1) := by decide +kernel
theorem dX10_cutOne_17 : decode cX10_cutOne 17 = .ok (.aload_n 0, 1) := by decide +kernel
theorem dX10_cutOne_18 : decode cX10_cutOne 18 = .ok (.getfield 53, 3) := by decide +kernel
theorem dX10_cutOne_21 : decode cX10_cutOne 21 = .ok (.iload_n 1, 1) := by decide +kernel
theorem dX10_cutOne_22 : decode cX10_cutOne 22 = .ok (.iaload, 1) := by decide +kernel
theorem dX10_cutOne_23 : decode cX10_cutOne 23 = .ok (.istore_n 3, 1) := by decide +kernel
theorem dX10_cutOne_24 : decode cX10_cutOne 24 = .ok (.aload_n 0, 1) := by decide +kernel
theorem dX10_cutOne_25 : decode cX10_cutOne 25 = .ok (.getfield 65, 3) := by decide +kernel
theorem dX10_cutOne_28 : decode cX10_cutOne 28 = .ok (.iload_n 2, 1) := by decide +kernel
theorem dX10_cutOne_29 : decode cX10_cutOne 29 = .ok (.dup2, 1) := by decide +kernel
theorem dX10_cutOne_30 : decode cX10_cutOne 30 = .ok (.iaload, 1) := by decide +kernel
theorem dX10_cutOne_31 : decode cX10_cutOne 31 = .ok (.iconst 1, 1) := by decide +kernel
theorem dX10_cutOne_32 : decode cX10_cutOne 32 = .ok (.iadd, 1) := by decide +kernel
theorem dX10_cutOne_33 : decode cX10_cutOne 33 = .ok (.iastore, 1) := by decide +kernel
theorem dX10_cutOne_34 : decode cX10_cutOne 34 = .ok (.aload_n 0, 1) := by decide +kernel
theorem dX10_cutOne_35 : decode cX10_cutOne 35 = .ok (.getfield 68, 3) := by decide +kernel
theorem dX10_cutOne_38 : decode cX10_cutOne 38 = .ok (.iload_n 2, 1) := by decide +kernel
theorem dX10_cutOne_39 : decode cX10_cutOne 39 = .ok (.dup2, 1) := by decide +kernel
theorem dX10_cutOne_40 : decode cX10_cutOne 40 = .ok (.iaload, 1) := by decide +kernel
theorem dX10_cutOne_41 : decode cX10_cutOne 41 = .ok (.iconst 1, 1) := by decide +kernel
theorem dX10_cutOne_42 : decode cX10_cutOne 42 = .ok (.iadd, 1) := by decide +kernel
theorem dX10_cutOne_43 : decode cX10_cutOne 43 = .ok (.iastore, 1) := by decide +kernel
theorem dX10_cutOne_44 : decode cX10_cutOne 44 = .ok (.aload_n 0, 1) := by decide +kernel
theorem dX10_cutOne_45 : decode cX10_cutOne 45 = .ok (.getfield 208, 3) := by decide +kernel
theorem dX10_cutOne_48 : decode cX10_cutOne 48 = .ok (.istore 4, 2) := by decide +kernel
theorem dX10_cutOne_50 : decode cX10_cutOne 50 = .ok (.aload_n 0, 1) := by decide +kernel
theorem dX10_cutOne_51 : decode cX10_cutOne 51 = .ok (.getfield 87, 3) := by decide +kernel
theorem dX10_cutOne_54 : decode cX10_cutOne 54 = .ok (.iload 4, 2) := by decide +kernel
theorem dX10_cutOne_56 : decode cX10_cutOne 56 = .ok (.aload_n 0, 1) := by decide +kernel
theorem dX10_cutOne_57 : decode cX10_cutOne 57 = .ok (.getfield 211, 3) := by decide +kernel
theorem dX10_cutOne_60 : decode cX10_cutOne 60 = .ok (.iastore, 1) := by decide +kernel
theorem dX10_cutOne_61 : decode cX10_cutOne 61 = .ok (.aload_n 0, 1) := by decide +kernel
theorem dX10_cutOne_62 : decode cX10_cutOne 62 = .ok (.getfield 90, 3) := by decide +kernel
theorem dX10_cutOne_65 : decode cX10_cutOne 65 = .ok (.iload 4, 2) := by decide +kernel
theorem dX10_cutOne_67 : decode cX10_cutOne 67 = .ok (.iload_n 1, 1) := by decide +kernel
theorem dX10_cutOne_68 : decode cX10_cutOne 68 = .ok (.iastore, 1) := by decide +kernel
theorem dX10_cutOne_69 : decode cX10_cutOne 69 = .ok (.aload_n 0, 1) := by decide +kernel
theorem dX10_cutOne_70 : decode cX10_cutOne 70 = .ok (.getfield 93, 3) := by decide +kernel
theorem dX10_cutOne_73 : decode cX10_cutOne 73 = .ok (.iload 4, 2) := by decide +kernel
theorem dX10_cutOne_75 : decode cX10_cutOne 75 = .ok (.iload_n 2, 1) := by decide +kernel
theorem dX10_cutOne_76 : decode cX10_cutOne 76 = .ok (.iastore, 1) := by decide +kernel
theorem dX10_cutOne_77 : decode cX10_cutOne 77 = .ok (.aload_n 0, 1) := by decide +kernel
theorem dX10_cutOne_78 : decode cX10_cutOne 78 = .ok (.getfield 96, 3) := by decide +kernel
theorem dX10_cutOne_81 : decode cX10_cutOne 81 = .ok (.iload 4, 2) := by decide +kernel
theorem dX10_cutOne_83 : decode cX10_cutOne 83 = .ok (.iload_n 3, 1) := by decide +kernel
theorem dX10_cutOne_84 : decode cX10_cutOne 84 = .ok (.iastore, 1) := by decide +kernel
theorem dX10_cutOne_85 : decode cX10_cutOne 85 = .ok (.aload_n 0, 1) := by decide +kernel
theorem dX10_cutOne_86 : decode cX10_cutOne 86 = .ok (.getfield 99, 3) := by decide +kernel
theorem dX10_cutOne_89 : decode cX10_cutOne 89 = .ok (.iload 4, 2) := by decide +kernel
theorem dX10_cutOne_91 : decode cX10_cutOne 91 = .ok (.aload_n 0, 1) := by decide +kernel
theorem dX10_cutOne_92 : decode cX10_cutOne 92 = .ok (.getfield 81, 3) := by decide +kernel
theorem dX10_cutOne_95 : decode cX10_cutOne 95 = .ok (.aload_n 0, 1) := by decide +kernel
theorem dX10_cutOne_96 : decode cX10_cutOne 96 = .ok (.getfield 202, 3) := by decide +kernel
theorem dX10_cutOne_99 : decode cX10_cutOne 99 = .ok (.iadd, 1) := by decide +kernel
theorem dX10_cutOne_100 : decode cX10_cutOne 100 = .ok (.aload_n 0, 1) := by decide +kernel
theorem dX10_cutOne_101 : decode cX10_cutOne 101 = .ok (.getfield 59, 3) := by decide +kernel
theorem dX10_cutOne_104 : decode cX10_cutOne 104 = .ok (.iload_n 3, 1) := by decide +kernel
theorem dX10_cutOne_105 : decode cX10_cutOne 105 = .ok (.iaload, 1) := by decide +kernel
theorem dX10_cutOne_106 : decode cX10_cutOne 106 = .ok (.iadd, 1) := by decide +kernel
theorem dX10_cutOne_107 : decode cX10_cutOne 107 = .ok (.sipush 500, 3) := by decide +kernel
theorem dX10_cutOne_110 : decode cX10_cutOne 110 = .ok (.isub, 1) := by decide +kernel
theorem dX10_cutOne_111 : decode cX10_cutOne 111 = .ok (.iastore, 1) := by decide +kernel
theorem dX10_cutOne_112 : decode cX10_cutOne 112 = .ok (.aload_n 0, 1) := by decide +kernel
theorem dX10_cutOne_113 : decode cX10_cutOne 113 = .ok (.getfield 102, 3) := by decide +kernel
theorem dX10_cutOne_116 : decode cX10_cutOne 116 = .ok (.iload 4, 2) := by decide +kernel
theorem dX10_cutOne_118 : decode cX10_cutOne 118 = .ok (.aload_n 0, 1) := by decide +kernel
theorem dX10_cutOne_119 : decode cX10_cutOne 119 = .ok (.getfield 59, 3) := by decide +kernel
theorem dX10_cutOne_122 : decode cX10_cutOne 122 = .ok (.iload_n 3, 1) := by decide +kernel
theorem dX10_cutOne_123 : decode cX10_cutOne 123 = .ok (.iaload, 1) := by decide +kernel
theorem dX10_cutOne_124 : decode cX10_cutOne 124 = .ok (.iastore, 1) := by decide +kernel
theorem dX10_cutOne_125 : decode cX10_cutOne 125 = .ok (.aload_n 0, 1) := by decide +kernel
theorem dX10_cutOne_126 : decode cX10_cutOne 126 = .ok (.getfield 105, 3) := by decide +kernel
theorem dX10_cutOne_129 : decode cX10_cutOne 129 = .ok (.iload 4, 2) := by decide +kernel
theorem dX10_cutOne_131 : decode cX10_cutOne 131 = .ok (.aload_n 0, 1) := by decide +kernel
theorem dX10_cutOne_132 : decode cX10_cutOne 132 = .ok (.getfield 193, 3) := by decide +kernel
theorem dX10_cutOne_135 : decode cX10_cutOne 135 = .ok (.ifCond .le 7, 3) := by decide +kernel
theorem dX10_cutOne_138 : decode cX10_cutOne 138 = .ok (.iconst 1, 1) := by decide +kernel
theorem dX10_cutOne_139 : decode cX10_cutOne 139 = .ok (.goto 53, 3) := by decide +kernel
theorem dX10_cutOne_142 : decode cX10_cutOne 142 = .ok (.aload_n 0, 1) := by decide +kernel
theorem dX10_cutOne_143 : decode cX10_cutOne 143 = .ok (.getfield 190, 3) := by decide +kernel
theorem dX10_cutOne_146 : decode cX10_cutOne 146 = .ok (.aload_n 0, 1) := by decide +kernel
theorem dX10_cutOne_147 : decode cX10_cutOne 147 = .ok (.getfield 62, 3) := by decide +kernel
theorem dX10_cutOne_150 : decode cX10_cutOne 150 = .ok (.iload_n 3, 1) := by decide +kernel
theorem dX10_cutOne_151 : decode cX10_cutOne 151 = .ok (.iaload, 1) := by decide +kernel
theorem dX10_cutOne_152 : decode cX10_cutOne 152 = .ok (.if_icmp .eq 7, 3) := by decide +kernel
theorem dX10_cutOne_155 : decode cX10_cutOne 155 = .ok (.iconst 2, 1) := by decide +kernel
theorem dX10_cutOne_156 : decode cX10_cutOne 156 = .ok (.goto 36, 3) := by decide +kernel
theorem dX10_cutOne_159 : decode cX10_cutOne 159 = .ok (.aload_n 0, 1) := by decide +kernel
theorem dX10_cutOne_160 : decode cX10_cutOne 160 = .ok (.getfield 68, 3) := by decide +kernel
theorem dX10_cutOne_163 : decode cX10_cutOne 163 = .ok (.iload_n 2, 1) := by decide +kernel
theorem dX10_cutOne_164 : decode cX10_cutOne 164 = .ok (.iaload, 1) := by decide +kernel
theorem dX10_cutOne_165 : decode cX10_cutOne 165 = .ok (.bipush 8, 2) := by decide +kernel
theorem dX10_cutOne_167 : decode cX10_cutOne 167 = .ok (.if_icmp .le 7, 3) := by decide +kernel
theorem dX10_cutOne_170 : decode cX10_cutOne 170 = .ok (.iconst 3, 1) := by decide +kernel
theorem dX10_cutOne_171 : decode cX10_cutOne 171 = .ok (.goto 21, 3) := by decide +kernel
theorem dX10_cutOne_174 : decode cX10_cutOne 174 = .ok (.aload_n 0, 1) := by decide +kernel
theorem dX10_cutOne_175 : decode cX10_cutOne 175 = .ok (.getfield 65, 3) := by decide +kernel
theorem dX10_cutOne_178 : decode cX10_cutOne 178 = .ok (.iload_n 2, 1) := by decide +kernel
theorem dX10_cutOne_179 : decode cX10_cutOne 179 = .ok (.iaload, 1) := by decide +kernel
theorem dX10_cutOne_180 : decode cX10_cutOne 180 = .ok (.aload_n 0, 1) := by decide +kernel
theorem dX10_cutOne_181 : decode cX10_cutOne 181 = .ok (.getfield 84, 3) := by decide +kernel
theorem dX10_cutOne_184 : decode cX10_cutOne 184 = .ok (.if_icmp .le 7, 3) := by decide +kernel
theorem dX10_cutOne_187 : decode cX10_cutOne 187 = .ok (.iconst 4, 1) := by decide +kernel
theorem dX10_cutOne_188 : decode cX10_cutOne 188 = .ok (.goto 4, 3) := by decide +kernel
theorem dX10_cutOne_191 : decode cX10_cutOne 191 = .ok (.iconst 0, 1) := by decide +kernel
theorem dX10_cutOne_192 : decode cX10_cutOne 192 = .ok (.iastore, 1) := by decide +kernel
theorem dX10_cutOne_193 : decode cX10_cutOne 193 = .ok (.aload_n 0, 1) := by decide +kernel
theorem dX10_cutOne_194 : decode cX10_cutOne 194 = .ok (.dup, 1) := by decide +kernel
theorem dX10_cutOne_195 : decode cX10_cutOne 195 = .ok (.getfield 193, 3) := by decide +kernel
theorem dX10_cutOne_198 : decode cX10_cutOne 198 = .ok (.aload_n 0, 1) := by decide +kernel
theorem dX10_cutOne_199 : decode cX10_cutOne 199 = .ok (.getfield 193, 3) := by decide +kernel
theorem dX10_cutOne_202 : decode cX10_cutOne 202 = .ok (.ifCond .le 7, 3) := by decide +kernel
theorem dX10_cutOne_205 : decode cX10_cutOne 205 = .ok (.iconst 1, 1) := by decide +kernel
theorem dX10_cutOne_206 : decode cX10_cutOne 206 = .ok (.goto 4, 3) := by decide +kernel
theorem dX10_cutOne_209 : decode cX10_cutOne 209 = .ok (.iconst 0, 1) := by decide +kernel
theorem dX10_cutOne_210 : decode cX10_cutOne 210 = .ok (.isub, 1) := by decide +kernel
theorem dX10_cutOne_211 : decode cX10_cutOne 211 = .ok (.putfield 193, 3) := by decide +kernel
theorem dX10_cutOne_214 : decode cX10_cutOne 214 = .ok (.aload_n 0, 1) := by decide +kernel
theorem dX10_cutOne_215 : decode cX10_cutOne 215 = .ok (.dup, 1) := by decide +kernel
theorem dX10_cutOne_216 : decode cX10_cutOne 216 = .ok (.getfield 208, 3) := by decide +kernel
theorem dX10_cutOne_219 : decode cX10_cutOne 219 = .ok (.iconst 1, 1) := by decide +kernel
theorem dX10_cutOne_220 : decode cX10_cutOne 220 = .ok (.iadd, 1) := by decide +kernel
theorem dX10_cutOne_221 : decode cX10_cutOne 221 = .ok (.putfield 208, 3) := by decide +kernel
theorem dX10_cutOne_224 : decode cX10_cutOne 224 = .ok (.aload_n 0, 1) := by decide +kernel
theorem dX10_cutOne_225 : decode cX10_cutOne 225 = .ok (.dup, 1) := by decide +kernel
theorem dX10_cutOne_226 : decode cX10_cutOne 226 = .ok (.getfield 211, 3) := by decide +kernel
theorem dX10_cutOne_229 : decode cX10_cutOne 229 = .ok (.iconst 1, 1) := by decide +kernel
theorem dX10_cutOne_230 : decode cX10_cutOne 230 = .ok (.iadd, 1) := by decide +kernel
theorem dX10_cutOne_231 : decode cX10_cutOne 231 = .ok (.putfield 211, 3) := by decide +kernel
theorem dX10_cutOne_234 : decode cX10_cutOne 234 = .ok (.aload_n 0, 1) := by decide +kernel
theorem dX10_cutOne_235 : decode cX10_cutOne 235 = .ok (.aload_n 0, 1) := by decide +kernel
theorem dX10_cutOne_236 : decode cX10_cutOne 236 = .ok (.getfield 184, 3) := by decide +kernel
theorem dX10_cutOne_239 : decode cX10_cutOne 239 = .ok (.iconst 1, 1) := by decide +kernel
theorem dX10_cutOne_240 : decode cX10_cutOne 240 = .ok (.iadd, 1) := by decide +kernel
theorem dX10_cutOne_241 : decode cX10_cutOne 241 = .ok (.aload_n 0, 1) := by decide +kernel
theorem dX10_cutOne_242 : decode cX10_cutOne 242 = .ok (.getfield 47, 3) := by decide +kernel
theorem dX10_cutOne_245 : decode cX10_cutOne 245 = .ok (.irem, 1) := by decide +kernel
theorem dX10_cutOne_246 : decode cX10_cutOne 246 = .ok (.putfield 184, 3) := by decide +kernel
theorem dX10_cutOne_249 : decode cX10_cutOne 249 = .ok (.return_, 1) := by decide +kernel
set_option maxRecDepth 20000 in
theorem ggX10_cut_X10_in : GoodIn wsX10_cut wsX10_in := goodIn_r _ [6] (by decide +kernel) (by decide +kernel)
set_option maxRecDepth 20000 in
theorem gX10_cut_X10_in : GoodIn wsX10_cut (va_wsS RX10 117 yX10_in wsX10_in) := goodIn_app (goodIn_of _ (by decide +kernel)) ggX10_cut_X10_in
set_option maxRecDepth 20000 in
theorem ggX10_cut_X10_comeOff : GoodIn wsX10_cut wsX10_comeOff := goodIn_r _ [10, 11, 12, 13, 14, 15, 16, 17, 18, 2, 19, 20, 21, 22, 23, 24, 5, 25, 26, 44, 45, 46, 47, 48, 49, 50, 51, 52, 53, 54, 55, 56, 57, 58, 59, 60, 61, 62, 63, 64, 65, 66, 67, 68, 69, 70, 71, 72, 73, 74, 75, 76, 77, 78, 79, 80, 81, 82, 83, 84, 85, 86, 87, 88] (by decide +kernel) (by decide +kernel)
set_option maxRecDepth 20000 in
theorem gX10_cut_X10_comeOff : GoodIn wsX10_cut (wsV RX10 214 RX10 yX10_comeOff wsX10_comeOff) := goodIn_app (goodIn_of _ (by decide +kernel)) ggX10_cut_X10_comeOff
set_option maxRecDepth 20000 in
theorem ggX10_cut_X10_cutOne : GoodIn wsX10_cut wsX10_cutOne := goodIn_r _ [30, 31, 32, 33, 34, 35, 36, 2, 15, 37, 19, 13, 20, 18, 16, 38, 39, 17, 21, 40, 41, 42, 43, 1, 44, 45, 46, 47, 48, 49, 50, 51, 52, 53, 54, 55, 56, 57, 58, 59, 60, 61, 62, 63, 64, 65, 66, 67, 68, 69, 70, 71, 72, 73, 74, 75, 76, 77, 78, 79, 80, 81, 82, 83, 84, 85, 86, 87, 88] (by decide +kernel) (by decide +kernel)
set_option maxRecDepth 20000 in
theorem gX10_cut_X10_cutOne : GoodIn wsX10_cut (wsV RX10 217 RX10 yX10_cutOne wsX10_cutOne) := goodIn_app (goodIn_of _ (by decide +kernel)) ggX10_cut_X10_cutOne
theorem dX10_cut_0 : decode cX10_cut 0 = .ok (.iload_n 1, 1) := by decide +kernel
theorem dX10_cut_1 : decode cX10_cut 1 = .ok (.iconst 1, 1) := by decide +kernel
theorem dX10_cut_2 : decode cX10_cut 2 = .ok (.bipush 100, 2) := by decide +kernel
theorem dX10_cut_4 : decode cX10_cut 4 = .ok (.invokestatic 117, 3) := by decide +kernel
theorem dX10_cut_7 : decode cX10_cut 7 = .ok (.ifCond .ne 5, 3) := by decide +kernel
theorem dX10_cut_10 : decode cX10_cut 10 = .ok (.iconst (-1), 1) := by decide +kernel
theorem dX10_cut_11 : decode cX10_cut 11 = .ok (.ireturn, 1) := by decide +kernel
theorem dX10_cut_12 : decode cX10_cut 12 = .ok (.aload_n 0, 1) := by decide +kernel
theorem dX10_cut_13 : decode cX10_cut 13 = .ok (.getfield 47, 3) := by decide +kernel
theorem dX10_cut_16 : decode cX10_cut 16 = .ok (.ifCond .ne 6, 3) := by decide +kernel
theorem dX10_cut_19 : decode cX10_cut 19 = .ok (.bipush (-4), 2) := by decide +kernel
theorem dX10_cut_21 : decode cX10_cut 21 = .ok (.ireturn, 1) := by decide +kernel
theorem dX10_cut_22 : decode cX10_cut 22 = .ok (.iconst 0, 1) := by decide +kernel
theorem dX10_cut_23 : decode cX10_cut 23 = .ok (.istore_n 2, 1) := by decide +kernel
theorem dX10_cut_24 : decode cX10_cut 24 = .ok (.iconst 0, 1) := by decide +kernel
theorem dX10_cut_25 : decode cX10_cut 25 = .ok (.istore_n 3, 1) := by decide +kernel
theorem dX10_cut_26 : decode cX10_cut 26 = .ok (.iload_n 3, 1) := by decide +kernel
theorem dX10_cut_27 : decode cX10_cut 27 = .ok (.iload_n 1, 1) := by decide +kernel
theorem dX10_cut_28 : decode cX10_cut 28 = .ok (.if_icmp .ge 29, 3) := by decide +kernel
theorem dX10_cut_31 : decode cX10_cut 31 = .ok (.aload_n 0, 1) := by decide +kernel
theorem dX10_cut_32 : decode cX10_cut 32 = .ok (.getfield 208, 3) := by decide +kernel
theorem dX10_cut_35 : decode cX10_cut 35 = .ok (.bipush 12, 2) := by decide +kernel
theorem dX10_cut_37 : decode cX10_cut 37 = .ok (.if_icmp .ne 10, 3) := by decide +kernel
theorem dX10_cut_40 : decode cX10_cut 40 = .ok (.aload_n 0, 1) := by decide +kernel
theorem dX10_cut_41 : decode cX10_cut 41 = .ok (.invokevirtual 214, 3) := by decide +kernel
theorem dX10_cut_44 : decode cX10_cut 44 = .ok (.iinc 2 1, 3) := by decide +kernel
theorem dX10_cut_47 : decode cX10_cut 47 = .ok (.aload_n 0, 1) := by decide +kernel
theorem dX10_cut_48 : decode cX10_cut 48 = .ok (.invokevirtual 217, 3) := by decide +kernel
theorem dX10_cut_51 : decode cX10_cut 51 = .ok (.iinc 3 1, 3) := by decide +kernel
theorem dX10_cut_54 : decode cX10_cut 54 = .ok (.goto (-28), 3) := by decide +kernel
theorem dX10_cut_57 : decode cX10_cut 57 = .ok (.iload_n 2, 1) := by decide +kernel
theorem dX10_cut_58 : decode cX10_cut 58 = .ok (.ireturn, 1) := by decide +kernel
set_option maxRecDepth 20000 in
theorem ggX10_drain_X10_comeOff : GoodIn wsX10_drain wsX10_comeOff := goodIn_r _ [6, 7, 8, 9, 10, 11, 12, 13, 14, 1, 15, 16, 17, 18, 19, 20, 5, 21, 22, 23, 24, 25, 26, 27, 28, 29, 30, 31, 32, 33, 34, 35, 36, 37, 38, 39, 40, 41, 42, 43, 44, 45, 46, 47, 48, 49, 50, 51, 52, 53, 54, 55, 56, 57, 58, 59, 60, 61, 62, 63, 64, 65, 66, 67] (by decide +kernel) (by decide +kernel)
set_option maxRecDepth 20000 in
theorem gX10_drain_X10_comeOff : GoodIn wsX10_drain (wsV RX10 214 RX10 yX10_comeOff wsX10_comeOff) := goodIn_app (goodIn_of _ (by decide +kernel)) ggX10_drain_X10_comeOff
theorem dX10_drain_0 : decode cX10_drain 0 = .ok (.aload_n 0, 1) := by decide +kernel
theorem dX10_drain_1 : decode cX10_drain 1 = .ok (.getfield 208, 3) := by decide +kernel
theorem dX10_drain_4 : decode cX10_drain 4 = .ok (.istore_n 1, 1) := by decide +kernel
theorem dX10_drain_5 : decode cX10_drain 5 = .ok (.iconst 0, 1) := by decide +kernel
theorem dX10_drain_6 : decode cX10_drain 6 = .ok (.istore_n 2, 1) := by decide +kernel
theorem dX10_drain_7 : decode cX10_drain 7 = .ok (.iload_n 2, 1) := by decide +kernel
theorem dX10_drain_8 : decode cX10_drain 8 = .ok (.iload_n 1, 1) := by decide +kernel
theorem dX10_drain_9 : decode cX10_drain 9 = .ok (.if_icmp .ge 13, 3) := by decide +kernel
theorem dX10_drain_12 : decode cX10_drain 12 = .ok (.aload_n 0, 1) := by decide +kernel
theorem dX10_drain_13 : decode cX10_drain 13 = .ok (.invokevirtual 214, 3) := by decide +kernel
theorem dX10_drain_16 : decode cX10_drain 16 = .ok (.iinc 2 1, 3) := by decide +kernel
theorem dX10_drain_19 : decode cX10_drain 19 = .ok (.goto (-12), 3) := by decide +kernel
theorem dX10_drain_22 : decode cX10_drain 22 = .ok (.iload_n 1, 1) := by decide +kernel
theorem dX10_drain_23 : decode cX10_drain 23 = .ok (.ireturn, 1) := by decide +kernel
set_option maxRecDepth 20000 in
theorem ggX10_bottle_X10_in : GoodIn wsX10_bottle wsX10_in := goodIn_r _ [10] (by decide +kernel) (by decide +kernel)
set_option maxRecDepth 20000 in
theorem gX10_bottle_X10_in : GoodIn wsX10_bottle (va_wsS RX10 117 yX10_in wsX10_in) := goodIn_app (goodIn_of _ (by decide +kernel)) ggX10_bottle_X10_in
set_option maxRecDepth 20000 in
theorem ggX10_bottle_X10_judgeOf : GoodIn wsX10_bottle wsX10_judgeOf := goodIn_r _ [14, 15, 6, 16, 17, 4, 18, 19, 20, 21, 22, 23, 24, 25, 26, 27, 28, 29, 30, 31, 32, 33, 34, 35, 36, 37, 38, 39, 40, 41, 42, 43, 44, 45, 46, 47, 48, 49, 50, 51, 52, 53, 54, 55, 56, 57, 58, 59, 60, 61, 62] (by decide +kernel) (by decide +kernel)
set_option maxRecDepth 20000 in
theorem gX10_bottle_X10_judgeOf : GoodIn wsX10_bottle (wsV RX10 205 RX10 yX10_judgeOf wsX10_judgeOf) := goodIn_app (goodIn_of _ (by decide +kernel)) ggX10_bottle_X10_judgeOf
theorem dX10_bottle_0 : decode cX10_bottle 0 = .ok (.iload_n 1, 1) := by decide +kernel
theorem dX10_bottle_1 : decode cX10_bottle 1 = .ok (.iconst 0, 1) := by decide +kernel
theorem dX10_bottle_2 : decode cX10_bottle 2 = .ok (.aload_n 0, 1) := by decide +kernel
theorem dX10_bottle_3 : decode cX10_bottle 3 = .ok (.getfield 208, 3) := by decide +kernel
theorem dX10_bottle_6 : decode cX10_bottle 6 = .ok (.iconst 1, 1) := by decide +kernel
theorem dX10_bottle_7 : decode cX10_bottle 7 = .ok (.isub, 1) := by decide +kernel
theorem dX10_bottle_8 : decode cX10_bottle 8 = .ok (.invokestatic 117, 3) := by decide +kernel
theorem dX10_bottle_11 : decode cX10_bottle 11 = .ok (.ifCond .ne 5, 3) := by decide +kernel
theorem dX10_bottle_14 : decode cX10_bottle 14 = .ok (.iconst (-1), 1) := by decide +kernel
theorem dX10_bottle_15 : decode cX10_bottle 15 = .ok (.ireturn, 1) := by decide +kernel
theorem dX10_bottle_16 : decode cX10_bottle 16 = .ok (.iload_n 2, 1) := by decide +kernel
theorem dX10_bottle_17 : decode cX10_bottle 17 = .ok (.tableswitch 80 0 5 #[39, 46, 53, 60, 67, 74], 39) := by decide +kernel
theorem dX10_bottle_56 : decode cX10_bottle 56 = .ok (.aload_n 0, 1) := by decide +kernel
theorem dX10_bottle_57 : decode cX10_bottle 57 = .ok (.getfield 87, 3) := by decide +kernel
theorem dX10_bottle_60 : decode cX10_bottle 60 = .ok (.iload_n 1, 1) := by decide +kernel
theorem dX10_bottle_61 : decode cX10_bottle 61 = .ok (.iaload, 1) := by decide +kernel
theorem dX10_bottle_62 : decode cX10_bottle 62 = .ok (.ireturn, 1) := by decide +kernel
theorem dX10_bottle_63 : decode cX10_bottle 63 = .ok (.aload_n 0, 1) := by decide +kernel
theorem dX10_bottle_64 : decode cX10_bottle 64 = .ok (.getfield 90, 3) := by decide +kernel
theorem dX10_bottle_67 : decode cX10_bottle 67 = .ok (.iload_n 1, 1) := by decide +kernel
theorem dX10_bottle_68 : decode cX10_bottle 68 = .ok (.iaload, 1) := by decide +kernel
theorem dX10_bottle_69 : decode cX10_bottle 69 = .ok (.ireturn, 1) := by decide +kernel
theorem dX10_bottle_70 : decode cX10_bottle 70 = .ok (.aload_n 0, 1) := by decide +kernel
theorem dX10_bottle_71 : decode cX10_bottle 71 = .ok (.getfield 93, 3) := by decide +kernel
theorem dX10_bottle_74 : decode cX10_bottle 74 = .ok (.iload_n 1, 1) := by decide +kernel
theorem dX10_bottle_75 : decode cX10_bottle 75 = .ok (.iaload, 1) := by decide +kernel
theorem dX10_bottle_76 : decode cX10_bottle 76 = .ok (.ireturn, 1) := by decide +kernel
theorem dX10_bottle_77 : decode cX10_bottle 77 = .ok (.aload_n 0, 1) := by decide +kernel
theorem dX10_bottle_78 : decode cX10_bottle 78 = .ok (.getfield 96, 3) := by decide +kernel
theorem dX10_bottle_81 : decode cX10_bottle 81 = .ok (.iload_n 1, 1) := by decide +kernel
theorem dX10_bottle_82 : decode cX10_bottle 82 = .ok (.iaload, 1) := by decide +kernel
theorem dX10_bottle_83 : decode cX10_bottle 83 = .ok (.ireturn, 1) := by decide +kernel
theorem dX10_bottle_84 : decode cX10_bottle 84 = .ok (.aload_n 0, 1) := by decide +kernel
theorem dX10_bottle_85 : decode cX10_bottle 85 = .ok (.getfield 99, 3) := by decide +kernel
theorem dX10_bottle_88 : decode cX10_bottle 88 = .ok (.iload_n 1, 1) := by decide +kernel
theorem dX10_bottle_89 : decode cX10_bottle 89 = .ok (.iaload, 1) := by decide +kernel
theorem dX10_bottle_90 : decode cX10_bottle 90 = .ok (.ireturn, 1) := by decide +kernel
theorem dX10_bottle_91 : decode cX10_bottle 91 = .ok (.aload_n 0, 1) := by decide +kernel
theorem dX10_bottle_92 : decode cX10_bottle 92 = .ok (.iload_n 1, 1) := by decide +kernel
theorem dX10_bottle_93 : decode cX10_bottle 93 = .ok (.invokevirtual 205, 3) := by decide +kernel
theorem dX10_bottle_96 : decode cX10_bottle 96 = .ok (.ireturn, 1) := by decide +kernel
theorem dX10_bottle_97 : decode cX10_bottle 97 = .ok (.iconst (-1), 1) := by decide +kernel
theorem dX10_bottle_98 : decode cX10_bottle 98 = .ok (.ireturn, 1) := by decide +kernel
set_option maxRecDepth 20000 in
theorem ggX10_many_X10_in : GoodIn wsX10_many wsX10_in := goodIn_r _ [15] (by decide +kernel) (by decide +kernel)
set_option maxRecDepth 20000 in
theorem gX10_many_X10_in : GoodIn wsX10_many (va_wsS RX10 117 yX10_in wsX10_in) := goodIn_app (goodIn_of _ (by decide +kernel)) ggX10_many_X10_in
theorem dX10_many_0 : decode cX10_many 0 = .ok (.iload_n 1, 1) := by decide +kernel
theorem dX10_many_1 : decode cX10_many 1 = .ok (.iconst 2, 1) := by decide +kernel
theorem dX10_many_2 : decode cX10_many 2 = .ok (.bipush 8, 2) := by decide +kernel
theorem dX10_many_4 : decode cX10_many 4 = .ok (.invokestatic 117, 3) := by decide +kernel
theorem dX10_many_7 : decode cX10_many 7 = .ok (.ifCond .eq 12, 3) := by decide +kernel
theorem dX10_many_10 : decode cX10_many 10 = .ok (.aload_n 0, 1) := by decide +kernel
theorem dX10_many_11 : decode cX10_many 11 = .ok (.getfield 108, 3) := by decide +kernel
theorem dX10_many_14 : decode cX10_many 14 = .ok (.iload_n 1, 1) := by decide +kernel
theorem dX10_many_15 : decode cX10_many 15 = .ok (.iconst 2, 1) := by decide +kernel
theorem dX10_many_16 : decode cX10_many 16 = .ok (.isub, 1) := by decide +kernel
theorem dX10_many_17 : decode cX10_many 17 = .ok (.iaload, 1) := by decide +kernel
theorem dX10_many_18 : decode cX10_many 18 = .ok (.ireturn, 1) := by decide +kernel
theorem dX10_many_19 : decode cX10_many 19 = .ok (.iload_n 1, 1) := by decide +kernel
theorem dX10_many_20 : decode cX10_many 20 = .ok (.tableswitch 141 0 15 #[80, 85, 141, 141, 141, 141, 141, 141, 141, 90, 95, 100, 121, 126, 131, 136], 80) := by decide +kernel
theorem dX10_many_100 : decode cX10_many 100 = .ok (.aload_n 0, 1) := by decide +kernel
theorem dX10_many_101 : decode cX10_many 101 = .ok (.getfield 211, 3) := by decide +kernel
theorem dX10_many_104 : decode cX10_many 104 = .ok (.ireturn, 1) := by decide +kernel
theorem dX10_many_105 : decode cX10_many 105 = .ok (.aload_n 0, 1) := by decide +kernel
theorem dX10_many_106 : decode cX10_many 106 = .ok (.getfield 208, 3) := by decide +kernel
theorem dX10_many_109 : decode cX10_many 109 = .ok (.ireturn, 1) := by decide +kernel
theorem dX10_many_110 : decode cX10_many 110 = .ok (.aload_n 0, 1) := by decide +kernel
theorem dX10_many_111 : decode cX10_many 111 = .ok (.getfield 47, 3) := by decide +kernel
theorem dX10_many_114 : decode cX10_many 114 = .ok (.ireturn, 1) := by decide +kernel
theorem dX10_many_115 : decode cX10_many 115 = .ok (.aload_n 0, 1) := by decide +kernel
theorem dX10_many_116 : decode cX10_many 116 = .ok (.getfield 81, 3) := by decide +kernel
theorem dX10_many_119 : decode cX10_many 119 = .ok (.ireturn, 1) := by decide +kernel
theorem dX10_many_120 : decode cX10_many 120 = .ok (.aload_n 0, 1) := by decide +kernel
theorem dX10_many_121 : decode cX10_many 121 = .ok (.getfield 47, 3) := by decide +kernel
theorem dX10_many_124 : decode cX10_many 124 = .ok (.ifCond .ne 7, 3) := by decide +kernel
theorem dX10_many_127 : decode cX10_many 127 = .ok (.iconst (-1), 1) := by decide +kernel
theorem dX10_many_128 : decode cX10_many 128 = .ok (.goto 12, 3) := by decide +kernel
theorem dX10_many_131 : decode cX10_many 131 = .ok (.aload_n 0, 1) := by decide +kernel
theorem dX10_many_132 : decode cX10_many 132 = .ok (.getfield 50, 3) := by decide +kernel
theorem dX10_many_135 : decode cX10_many 135 = .ok (.aload_n 0, 1) := by decide +kernel
theorem dX10_many_136 : decode cX10_many 136 = .ok (.getfield 184, 3) := by decide +kernel
theorem dX10_many_139 : decode cX10_many 139 = .ok (.iaload, 1) := by decide +kernel
theorem dX10_many_140 : decode cX10_many 140 = .ok (.ireturn, 1) := by decide +kernel
theorem dX10_many_141 : decode cX10_many 141 = .ok (.aload_n 0, 1) := by decide +kernel
theorem dX10_many_142 : decode cX10_many 142 = .ok (.getfield 193, 3) := by decide +kernel
theorem dX10_many_145 : decode cX10_many 145 = .ok (.ireturn, 1) := by decide +kernel
theorem dX10_many_146 : decode cX10_many 146 = .ok (.aload_n 0, 1) := by decide +kernel
theorem dX10_many_147 : decode cX10_many 147 = .ok (.getfield 128, 3) := by decide +kernel
theorem dX10_many_150 : decode cX10_many 150 = .ok (.ireturn, 1) := by decide +kernel
theorem dX10_many_151 : decode cX10_many 151 = .ok (.aload_n 0, 1) := by decide +kernel
theorem dX10_many_152 : decode cX10_many 152 = .ok (.getfield 28, 3) := by decide +kernel
theorem dX10_many_155 : decode cX10_many 155 = .ok (.ireturn, 1) := by decide +kernel
theorem dX10_many_156 : decode cX10_many 156 = .ok (.aload_n 0, 1) := by decide +kernel
theorem dX10_many_157 : decode cX10_many 157 = .ok (.getfield 190, 3) := by decide +kernel
theorem dX10_many_160 : decode cX10_many 160 = .ok (.ireturn, 1) := by decide +kernel
theorem dX10_many_161 : decode cX10_many 161 = .ok (.iconst (-1), 1) := by decide +kernel
theorem dX10_many_162 : decode cX10_many 162 = .ok (.ireturn, 1) := by decide +kernel
theorem dJ9_floorMod_7cf53_0 : decode cJ9_floorMod_7cf53 0 = .ok (.iload_n 0, 1) := by decide +kernel
theorem dJ9_floorMod_7cf53_1 : decode cJ9_floorMod_7cf53 1 = .ok (.iload_n 1, 1) := by decide +kernel
theorem dJ9_floorMod_7cf53_2 : decode cJ9_floorMod_7cf53 2 = .ok (.irem, 1) := by decide +kernel
theorem dJ9_floorMod_7cf53_3 : decode cJ9_floorMod_7cf53 3 = .ok (.istore_n 2, 1) := by decide +kernel
theorem dJ9_floorMod_7cf53_4 : decode cJ9_floorMod_7cf53 4 = .ok (.iload_n 0, 1) := by decide +kernel
theorem dJ9_floorMod_7cf53_5 : decode cJ9_floorMod_7cf53 5 = .ok (.iload_n 1, 1) := by decide +kernel
theorem dJ9_floorMod_7cf53_6 : decode cJ9_floorMod_7cf53 6 = .ok (.ixor, 1) := by decide +kernel
theorem dJ9_floorMod_7cf53_7 : decode cJ9_floorMod_7cf53 7 = .ok (.ifCond .ge 11, 3) := by decide +kernel
theorem dJ9_floorMod_7cf53_10 : decode cJ9_floorMod_7cf53 10 = .ok (.iload_n 2, 1) := by decide +kernel
theorem dJ9_floorMod_7cf53_11 : decode cJ9_floorMod_7cf53 11 = .ok (.ifCond .eq 7, 3) := by decide +kernel
theorem dJ9_floorMod_7cf53_14 : decode cJ9_floorMod_7cf53 14 = .ok (.iload_n 2, 1) := by decide +kernel
theorem dJ9_floorMod_7cf53_15 : decode cJ9_floorMod_7cf53 15 = .ok (.iload_n 1, 1) := by decide +kernel
theorem dJ9_floorMod_7cf53_16 : decode cJ9_floorMod_7cf53 16 = .ok (.iadd, 1) := by decide +kernel
theorem dJ9_floorMod_7cf53_17 : decode cJ9_floorMod_7cf53 17 = .ok (.ireturn, 1) := by decide +kernel
theorem dJ9_floorMod_7cf53_18 : decode cJ9_floorMod_7cf53 18 = .ok (.iload_n 2, 1) := by decide +kernel
theorem dJ9_floorMod_7cf53_19 : decode cJ9_floorMod_7cf53 19 = .ok (.ireturn, 1) := by decide +kernel
theorem dJ9_abs_0f7a4_0 : decode cJ9_abs_0f7a4 0 = .ok (.iload_n 0, 1) := by decide +kernel
theorem dJ9_abs_0f7a4_1 : decode cJ9_abs_0f7a4 1 = .ok (.ifCond .ge 8, 3) := by decide +kernel
theorem dJ9_abs_0f7a4_4 : decode cJ9_abs_0f7a4 4 = .ok (.iload_n 0, 1) := by decide +kernel
theorem dJ9_abs_0f7a4_5 : decode cJ9_abs_0f7a4 5 = .ok (.ineg, 1) := by decide +kernel
theorem dJ9_abs_0f7a4_6 : decode cJ9_abs_0f7a4 6 = .ok (.goto 4, 3) := by decide +kernel
theorem dJ9_abs_0f7a4_9 : decode cJ9_abs_0f7a4 9 = .ok (.iload_n 0, 1) := by decide +kernel
theorem dJ9_abs_0f7a4_10 : decode cJ9_abs_0f7a4 10 = .ok (.ireturn, 1) := by decide +kernel
theorem dJ9_max_7cf53_0 : decode cJ9_max_7cf53 0 = .ok (.iload_n 0, 1) := by decide +kernel
theorem dJ9_max_7cf53_1 : decode cJ9_max_7cf53 1 = .ok (.iload_n 1, 1) := by decide +kernel
theorem dJ9_max_7cf53_2 : decode cJ9_max_7cf53 2 = .ok (.if_icmp .lt 7, 3) := by decide +kernel
theorem dJ9_max_7cf53_5 : decode cJ9_max_7cf53 5 = .ok (.iload_n 0, 1) := by decide +kernel
theorem dJ9_max_7cf53_6 : decode cJ9_max_7cf53 6 = .ok (.goto 4, 3) := by decide +kernel
theorem dJ9_max_7cf53_9 : decode cJ9_max_7cf53 9 = .ok (.iload_n 1, 1) := by decide +kernel
theorem dJ9_max_7cf53_10 : decode cJ9_max_7cf53 10 = .ok (.ireturn, 1) := by decide +kernel
theorem dJ9_min_7cf53_0 : decode cJ9_min_7cf53 0 = .ok (.iload_n 0, 1) := by decide +kernel
theorem dJ9_min_7cf53_1 : decode cJ9_min_7cf53 1 = .ok (.iload_n 1, 1) := by decide +kernel
theorem dJ9_min_7cf53_2 : decode cJ9_min_7cf53 2 = .ok (.if_icmp .gt 7, 3) := by decide +kernel
theorem dJ9_min_7cf53_5 : decode cJ9_min_7cf53 5 = .ok (.iload_n 0, 1) := by decide +kernel
theorem dJ9_min_7cf53_6 : decode cJ9_min_7cf53 6 = .ok (.goto 4, 3) := by decide +kernel
theorem dJ9_min_7cf53_9 : decode cJ9_min_7cf53 9 = .ok (.iload_n 1, 1) := by decide +kernel
theorem dJ9_min_7cf53_10 : decode cJ9_min_7cf53 10 = .ok (.ireturn, 1) := by decide +kernel
set_option maxRecDepth 20000 in
theorem ggL_law_X9_init : GoodIn wsL_law wsX9_init := goodIn_r _ [8, 9, 10, 11, 12, 13, 14, 15, 16, 17, 18, 19, 20, 21, 22, 23, 24, 25, 26, 27, 28, 29, 30, 31, 32, 33, 34, 35, 36, 37, 38, 39, 40, 41, 42, 43, 44, 45, 46, 47, 48, 49, 50, 51, 52, 53, 54, 55, 56, 57, 58, 59, 60, 61, 62, 63, 64, 65, 66, 67, 68, 69, 70, 71, 72, 73, 74, 75, 76, 77, 78, 79, 80, 81, 82, 83, 84, 85, 86, 87, 88, 89, 90, 91, 92, 93, 94, 95, 96, 97, 98, 99, 100, 101, 102, 103, 104, 105, 106, 107, 108, 109, 110, 111, 112, 113, 114, 115, 116, 117, 118, 119, 120, 121, 122, 123, 124, 125, 126, 127, 801, 802, 803, 804, 805, 741, 742, 743, 744, 745, 746, 747, 748, 749, 750, 751, 752, 753, 754, 755, 806, 807, 808, 809, 810, 811, 812, 813, 814, 815, 816, 817, 818, 819, 820, 821, 822, 823, 824, 825, 826, 827, 828, 829, 830, 831, 832, 833, 834, 835] (by decide +kernel) (by decide +kernel)
set_option maxRecDepth 20000 in
theorem gL_law_X9_init : GoodIn wsL_law (wsX9_init) := ggL_law_X9_init
set_option maxRecDepth 20000 in
theorem ggL_law_X10_init : GoodIn wsL_law wsX10_init := goodIn_r _ [130, 131, 10, 11, 32, 132, 133, 134, 135, 136, 137, 138, 139, 140, 141, 142, 143, 144, 145, 146, 147, 148, 149, 150, 151, 103, 152, 153, 154, 155, 156, 157, 158, 159, 160, 161, 162, 163, 164, 165, 166, 756, 757, 758, 759, 760, 761, 762, 763, 764, 765, 766, 767, 768, 769, 770, 771, 772, 773, 774, 775, 776, 777, 778, 779, 780, 781, 782, 783, 784, 785, 786, 787, 788, 789, 790, 791, 792, 793, 794, 795, 796, 797, 798, 799, 800] (by decide +kernel) (by decide +kernel)
set_option maxRecDepth 20000 in
theorem gL_law_X10_init : GoodIn wsL_law (wsX10_init) := ggL_law_X10_init
set_option maxRecDepth 20000 in
theorem ggL_law_X9_set : GoodIn wsL_law wsX9_set := goodIn_r _ [170, 15, 171, 172, 173, 2, 174, 175, 176, 177, 178, 179, 180, 181, 182, 183, 184, 185, 186, 187, 188, 189, 14, 190, 53, 48, 54, 50, 55, 191, 192, 193, 52, 194, 62, 63, 195, 196, 197, 198, 199, 200, 201, 57, 202, 67, 203, 68, 204, 69, 70, 205, 206, 207, 208, 209, 210, 211, 212, 213, 214, 215, 216, 217, 218, 219, 220, 741, 742, 743, 744, 745, 746, 747, 748, 749, 750, 751, 752, 753, 754, 755, 801, 802, 803, 804, 805, 820, 821, 822, 823, 824, 825] (by decide +kernel) (by decide +kernel)
set_option maxRecDepth 20000 in
theorem gL_law_X9_set : GoodIn wsL_law (wsV RL 13 RX9 yX9_set wsX9_set) := goodIn_app (goodIn_of _ (by decide +kernel)) ggL_law_X9_set
set_option maxRecDepth 20000 in
theorem ggL_law_X10_set : GoodIn wsL_law wsX10_set := goodIn_r _ [224, 132, 133, 225, 226, 227, 5, 228, 229, 230, 231, 232, 233, 234, 235, 236, 237, 238, 239, 240, 241, 242, 243, 244, 245, 138, 246, 247, 248, 249, 135, 136, 137, 134, 250, 251, 252, 253, 254, 255, 256, 257, 756, 757, 758, 759, 760, 761, 762, 763, 764, 765, 766, 767, 768, 769, 770, 771, 772, 773, 774, 775, 776, 777, 778, 779, 780, 781, 782, 783, 784, 785, 786, 787, 788, 789, 790, 791, 792, 793, 794, 795, 796, 797, 798, 799, 800] (by decide +kernel) (by decide +kernel)
set_option maxRecDepth 20000 in
theorem gL_law_X10_set : GoodIn wsL_law (wsV RL 17 RX10 yX10_set wsX10_set) := goodIn_app (goodIn_of _ (by decide +kernel)) ggL_law_X10_set
set_option maxRecDepth 20000 in
theorem ggL_law_X9_turn : GoodIn wsL_law wsX9_turn := goodIn_r _ [261, 15, 171, 175, 176, 2, 177, 178, 179, 180, 262, 263, 264, 52, 265, 62, 63, 266, 267, 268, 269, 741, 742, 743, 744, 745, 746, 747, 748, 749, 750, 751, 752, 753, 754, 755, 801, 802, 803, 804, 805, 820, 821] (by decide +kernel) (by decide +kernel)
set_option maxRecDepth 20000 in
theorem gL_law_X9_turn : GoodIn wsL_law (wsV RL 18 RX9 yX9_turn wsX9_turn) := goodIn_app (goodIn_of _ (by decide +kernel)) ggL_law_X9_turn
set_option maxRecDepth 20000 in
theorem ggL_law_X10_turn : GoodIn wsL_law wsX10_turn := goodIn_r _ [273, 132, 133, 229, 230, 5, 231, 232, 233, 234, 756, 757, 758, 759, 760, 761, 762, 763, 764, 765, 766, 767, 768, 769, 770, 771, 772, 773, 774, 775, 776, 777, 778, 779, 780, 781, 782, 783, 784, 785, 786, 787, 788, 789, 790, 791, 792, 793, 794, 795, 796, 797, 798, 799, 800] (by decide +kernel) (by decide +kernel)
set_option maxRecDepth 20000 in
theorem gL_law_X10_turn : GoodIn wsL_law (wsV RL 22 RX10 yX10_turn wsX10_turn) := goodIn_app (goodIn_of _ (by decide +kernel)) ggL_law_X10_turn
set_option maxRecDepth 20000 in
theorem ggL_law_X9_copy : GoodIn wsL_law wsX9_copy := goodIn_r _ [277, 15, 171, 175, 176, 2, 177, 178, 179, 180, 278, 192, 193, 52, 194, 62, 63, 741, 742, 743, 744, 745, 746, 747, 748, 749, 750, 751, 752, 753, 754, 755, 801, 802, 803, 804, 805, 820, 821] (by decide +kernel) (by decide +kernel)
set_option maxRecDepth 20000 in
theorem gL_law_X9_copy : GoodIn wsL_law (wsV RL 23 RX9 yX9_copy wsX9_copy) := goodIn_app (goodIn_of _ (by decide +kernel)) ggL_law_X9_copy
set_option maxRecDepth 20000 in
theorem ggL_law_X10_copy : GoodIn wsL_law wsX10_copy := goodIn_r _ [282, 132, 133, 229, 230, 5, 231, 232, 233, 234, 756, 757, 758, 759, 760, 761, 762, 763, 764, 765, 766, 767, 768, 769, 770, 771, 772, 773, 774, 775, 776, 777, 778, 779, 780, 781, 782, 783, 784, 785, 786, 787, 788, 789, 790, 791, 792, 793, 794, 795, 796, 797, 798, 799, 800] (by decide +kernel) (by decide +kernel)
set_option maxRecDepth 20000 in
theorem gL_law_X10_copy : GoodIn wsL_law (wsV RL 26 RX10 yX10_copy wsX10_copy) := goodIn_app (goodIn_of _ (by decide +kernel)) ggL_law_X10_copy
set_option maxRecDepth 20000 in
theorem ggL_law_X9_law : GoodIn wsL_law wsX9_law := goodIn_r _ [286, 15, 287, 288, 289, 290, 291, 2, 292, 293, 178, 179, 180, 181, 182, 183, 294, 295, 296, 57, 297, 67, 68, 69, 70, 298, 299, 300, 14, 301, 50, 48, 199, 200, 201, 202, 203, 204, 205, 206, 207, 208, 209, 52, 210, 62, 211, 212, 213, 214, 63, 215, 216, 217, 218, 219, 741, 742, 743, 744, 745, 746, 747, 748, 749, 750, 751, 752, 753, 754, 755, 801, 802, 803, 804, 805, 822, 823, 824, 825, 820, 821] (by decide +kernel) (by decide +kernel)
set_option maxRecDepth 20000 in
theorem gL_law_X9_law : GoodIn wsL_law (wsV RL 27 RX9 yX9_law wsX9_law) := goodIn_app (goodIn_of _ (by decide +kernel)) ggL_law_X9_law
set_option maxRecDepth 20000 in
theorem ggL_law_X10_law : GoodIn wsL_law wsX10_law := goodIn_r _ [305, 306, 245, 134, 135, 136, 137, 138, 232, 233, 5, 234, 235, 236, 237, 246, 247, 248, 249, 132, 133, 250, 251, 252, 253, 254, 255, 256, 257, 756, 757, 758, 759, 760, 761, 762, 763, 764, 765, 766, 767, 768, 769, 770, 771, 772, 773, 774, 775, 776, 777, 778, 779, 780, 781, 782, 783, 784, 785, 786, 787, 788, 789, 790, 791, 792, 793, 794, 795, 796, 797, 798, 799, 800] (by decide +kernel) (by decide +kernel)
set_option maxRecDepth 20000 in
theorem gL_law_X10_law : GoodIn wsL_law (wsV RL 30 RX10 yX10_law wsX10_law) := goodIn_app (goodIn_of _ (by decide +kernel)) ggL_law_X10_law
set_option maxRecDepth 20000 in
theorem ggL_law_X9_repeal : GoodIn wsL_law wsX9_repeal := goodIn_r _ [310, 15, 287, 741, 742, 743, 744, 745, 746, 747, 748, 749, 750, 751, 752, 753, 754, 755, 801, 802, 803, 804, 805] (by decide +kernel) (by decide +kernel)
set_option maxRecDepth 20000 in
theorem gL_law_X9_repeal : GoodIn wsL_law (wsV RL 31 RX9 yX9_repeal wsX9_repeal) := goodIn_app (goodIn_of _ (by decide +kernel)) ggL_law_X9_repeal
set_option maxRecDepth 20000 in
theorem ggL_law_X10_repeal : GoodIn wsL_law wsX10_repeal := goodIn_r _ [314, 245, 756, 757, 758, 759, 760, 761, 762, 763, 764, 765, 766, 767, 768, 769, 770, 771, 772, 773, 774, 775, 776, 777, 778, 779, 780, 781, 782, 783, 784, 785, 786, 787, 788, 789, 790, 791, 792, 793, 794, 795, 796, 797, 798, 799, 800] (by decide +kernel) (by decide +kernel)
set_option maxRecDepth 20000 in
theorem gL_law_X10_repeal : GoodIn wsL_law (wsV RL 35 RX10 yX10_repeal wsX10_repeal) := goodIn_app (goodIn_of _ (by decide +kernel)) ggL_law_X10_repeal
set_option maxRecDepth 20000 in
theorem ggL_law_X9_pace : GoodIn wsL_law wsX9_pace := goodIn_r _ [318, 15, 289, 178, 179, 2, 180, 319, 320, 321, 14, 322, 54, 323, 299, 300, 301, 50, 48, 199, 200, 201, 57, 202, 67, 203, 68, 204, 69, 70, 205, 206, 207, 208, 209, 52, 210, 62, 211, 212, 213, 214, 63, 215, 216, 217, 218, 219, 741, 742, 743, 744, 745, 746, 747, 748, 749, 750, 751, 752, 753, 754, 755, 801, 802, 803, 804, 805, 822, 823, 824, 825, 820, 821] (by decide +kernel) (by decide +kernel)
set_option maxRecDepth 20000 in
theorem gL_law_X9_pace : GoodIn wsL_law (wsV RL 36 RX9 yX9_pace wsX9_pace) := goodIn_app (goodIn_of _ (by decide +kernel)) ggL_law_X9_pace
set_option maxRecDepth 20000 in
theorem ggL_law_X10_pace : GoodIn wsL_law wsX10_pace := goodIn_r _ [327, 138, 232, 233, 5, 234, 328, 329, 330, 331, 245, 246, 247, 248, 249, 135, 136, 137, 134, 132, 133, 250, 251, 252, 253, 254, 255, 256, 257, 756, 757, 758, 759, 760, 761, 762, 763, 764, 765, 766, 767, 768, 769, 770, 771, 772, 773, 774, 775, 776, 777, 778, 779, 780, 781, 782, 783, 784, 785, 786, 787, 788, 789, 790, 791, 792, 793, 794, 795, 796, 797, 798, 799, 800] (by decide +kernel) (by decide +kernel)
set_option maxRecDepth 20000 in
theorem gL_law_X10_pace : GoodIn wsL_law (wsV RL 40 RX10 yX10_pace wsX10_pace) := goodIn_app (goodIn_of _ (by decide +kernel)) ggL_law_X10_pace
set_option maxRecDepth 20000 in
theorem ggL_law_X9_fastest : GoodIn wsL_law wsX9_fastest := goodIn_r _ [335, 15, 336, 337, 338, 14, 339, 54, 50, 48, 340, 341, 342, 343, 344, 345, 346, 57, 347, 67, 70, 68, 215, 212, 213, 52, 214, 62, 63, 205, 2, 206, 741, 742, 743, 744, 745, 746, 747, 748, 749, 750, 751, 752, 753, 754, 755, 801, 802, 803, 804, 805, 822, 823, 824, 825, 820, 821] (by decide +kernel) (by decide +kernel)
set_option maxRecDepth 20000 in
theorem gL_law_X9_fastest : GoodIn wsL_law (wsV RL 41 RX9 yX9_fastest wsX9_fastest) := goodIn_app (goodIn_of _ (by decide +kernel)) ggL_law_X9_fastest
set_option maxRecDepth 20000 in
theorem ggL_law_X10_fastest : GoodIn wsL_law wsX10_fastest := goodIn_r _ [351, 328, 329, 330, 5, 331, 245, 246, 247, 248, 249, 135, 136, 137, 134, 132, 133, 250, 251, 252, 253, 254, 255, 256, 257, 756, 757, 758, 759, 760, 761, 762, 763, 764, 765, 766, 767, 768, 769, 770, 771, 772, 773, 774, 775, 776, 777, 778, 779, 780, 781, 782, 783, 784, 785, 786, 787, 788, 789, 790, 791, 792, 793, 794, 795, 796, 797, 798, 799, 800] (by decide +kernel) (by decide +kernel)
set_option maxRecDepth 20000 in
theorem gL_law_X10_fastest : GoodIn wsL_law (wsV RL 44 RX10 yX10_fastest wsX10_fastest) := goodIn_app (goodIn_of _ (by decide +kernel)) ggL_law_X10_fastest
set_option maxRecDepth 20000 in
theorem ggL_law_X9_act : GoodIn wsL_law wsX9_act := goodIn_r _ [355, 15, 171, 356, 357, 175, 176, 2, 177, 178, 179, 180, 181, 182, 183, 358, 212, 213, 52, 214, 62, 63, 205, 206, 184, 185, 186, 359, 208, 209, 210, 211, 360, 361, 362, 741, 742, 743, 744, 745, 746, 747, 748, 749, 750, 751, 752, 753, 754, 755, 801, 802, 803, 804, 805, 820, 821] (by decide +kernel) (by decide +kernel)
set_option maxRecDepth 20000 in
theorem gL_law_X9_act : GoodIn wsL_law (wsV RL 45 RX9 yX9_act wsX9_act) := goodIn_app (goodIn_of _ (by decide +kernel)) ggL_law_X9_act
set_option maxRecDepth 20000 in
theorem ggL_law_X10_act : GoodIn wsL_law wsX10_act := goodIn_r _ [366, 132, 133, 229, 230, 5, 231, 232, 233, 234, 235, 236, 237, 238, 239, 240, 250, 251, 252, 253, 254, 255, 256, 257, 756, 757, 758, 759, 760, 761, 762, 763, 764, 765, 766, 767, 768, 769, 770, 771, 772, 773, 774, 775, 776, 777, 778, 779, 780, 781, 782, 783, 784, 785, 786, 787, 788, 789, 790, 791, 792, 793, 794, 795, 796, 797, 798, 799, 800] (by decide +kernel) (by decide +kernel)
set_option maxRecDepth 20000 in
theorem gL_law_X10_act : GoodIn wsL_law (wsV RL 48 RX10 yX10_act wsX10_act) := goodIn_app (goodIn_of _ (by decide +kernel)) ggL_law_X10_act
set_option maxRecDepth 20000 in
theorem ggL_law_X9_would : GoodIn wsL_law wsX9_would := goodIn_r _ [370, 15, 172, 173, 2, 174, 175, 176, 177, 178, 179, 180, 181, 182, 183, 184, 185, 186, 187, 188, 189, 14, 190, 53, 48, 54, 50, 55, 191, 192, 193, 52, 194, 62, 63, 195, 196, 197, 198, 199, 200, 201, 57, 202, 67, 203, 68, 204, 69, 70, 205, 206, 207, 208, 209, 210, 211, 212, 213, 214, 215, 216, 217, 218, 219, 741, 742, 743, 744, 745, 746, 747, 748, 749, 750, 751, 752, 753, 754, 755, 801, 802, 803, 804, 805, 820, 821, 822, 823, 824, 825] (by decide +kernel) (by decide +kernel)
set_option maxRecDepth 20000 in
theorem gL_law_X9_would : GoodIn wsL_law (wsV RL 49 RX9 yX9_would wsX9_would) := goodIn_app (goodIn_of _ (by decide +kernel)) ggL_law_X9_would
set_option maxRecDepth 20000 in
theorem ggL_law_X10_would : GoodIn wsL_law wsX10_would := goodIn_r _ [374, 132, 133, 225, 226, 227, 5, 228, 229, 230, 231, 232, 233, 234, 235, 236, 237, 238, 239, 240, 241, 242, 243, 244, 245, 138, 246, 247, 248, 249, 135, 136, 137, 134, 250, 251, 252, 253, 254, 255, 256, 257, 756, 757, 758, 759, 760, 761, 762, 763, 764, 765, 766, 767, 768, 769, 770, 771, 772, 773, 774, 775, 776, 777, 778, 779, 780, 781, 782, 783, 784, 785, 786, 787, 788, 789, 790, 791, 792, 793, 794, 795, 796, 797, 798, 799, 800] (by decide +kernel) (by decide +kernel)
set_option maxRecDepth 20000 in
theorem gL_law_X10_would : GoodIn wsL_law (wsV RL 52 RX10 yX10_would wsX10_would) := goodIn_app (goodIn_of _ (by decide +kernel)) ggL_law_X10_would
set_option maxRecDepth 20000 in
theorem ggL_law_X9_arm : GoodIn wsL_law wsX9_arm := goodIn_r _ [378, 19, 379, 380, 381, 382, 2, 383, 178, 179, 180, 384, 385, 386, 18, 387, 76, 79, 388, 389, 390, 391, 392, 393, 394, 395, 396, 397, 398, 399, 400, 401, 402, 78, 403, 83, 404, 405, 406, 407, 85, 408, 409, 342, 410, 411, 412, 413, 414, 205, 206, 415, 416, 417, 418, 84, 419, 741, 742, 743, 744, 745, 746, 747, 748, 749, 750, 751, 752, 753, 754, 755, 806, 807, 826, 827, 828] (by decide +kernel) (by decide +kernel)
set_option maxRecDepth 20000 in
theorem gL_law_X9_arm : GoodIn wsL_law (wsV RL 53 RX9 yX9_arm wsX9_arm) := goodIn_app (goodIn_of _ (by decide +kernel)) ggL_law_X9_arm
set_option maxRecDepth 20000 in
theorem ggL_law_X10_arm : GoodIn wsL_law wsX10_arm := goodIn_r _ [423, 424, 139, 165, 140, 166, 141, 142, 143, 425, 426, 5, 427, 232, 233, 234, 428, 429, 430, 431, 432, 433, 434, 435, 436, 437, 438, 756, 757, 758, 759, 760, 761, 762, 763, 764, 765, 766, 767, 768, 769, 770, 771, 772, 773, 774, 775, 776, 777, 778, 779, 780, 781, 782, 783, 784, 785, 786, 787, 788, 789, 790, 791, 792, 793, 794, 795, 796, 797, 798, 799, 800] (by decide +kernel) (by decide +kernel)
set_option maxRecDepth 20000 in
theorem gL_law_X10_arm : GoodIn wsL_law (wsV RL 56 RX10 yX10_arm wsX10_arm) := goodIn_app (goodIn_of _ (by decide +kernel)) ggL_law_X10_arm
set_option maxRecDepth 20000 in
theorem ggL_law_X9_knot : GoodIn wsL_law wsX9_knot := goodIn_r _ [442, 19, 379, 380, 184, 185, 2, 186, 178, 179, 180, 443, 444, 445, 78, 446, 85, 83, 447, 87, 88, 89, 84, 741, 742, 743, 744, 745, 746, 747, 748, 749, 750, 751, 752, 753, 754, 755, 806, 807, 826, 827, 828] (by decide +kernel) (by decide +kernel)
set_option maxRecDepth 20000 in
theorem gL_law_X9_knot : GoodIn wsL_law (wsV RL 57 RX9 yX9_knot wsX9_knot) := goodIn_app (goodIn_of _ (by decide +kernel)) ggL_law_X9_knot
set_option maxRecDepth 20000 in
theorem ggL_law_X10_knot : GoodIn wsL_law wsX10_knot := goodIn_r _ [451, 424, 142, 143, 238, 239, 5, 240, 232, 233, 234, 756, 757, 758, 759, 760, 761, 762, 763, 764, 765, 766, 767, 768, 769, 770, 771, 772, 773, 774, 775, 776, 777, 778, 779, 780, 781, 782, 783, 784, 785, 786, 787, 788, 789, 790, 791, 792, 793, 794, 795, 796, 797, 798, 799, 800] (by decide +kernel) (by decide +kernel)
set_option maxRecDepth 20000 in
theorem gL_law_X10_knot : GoodIn wsL_law (wsV RL 60 RX10 yX10_knot wsX10_knot) := goodIn_app (goodIn_of _ (by decide +kernel)) ggL_law_X10_knot
set_option maxRecDepth 20000 in
theorem ggL_law_X9_forget : GoodIn wsL_law wsX9_forget := goodIn_r _ [455, 19, 379, 380, 741, 742, 743, 744, 745, 746, 747, 748, 749, 750, 751, 752, 753, 754, 755, 806, 807, 826, 827, 828] (by decide +kernel) (by decide +kernel)
set_option maxRecDepth 20000 in
theorem gL_law_X9_forget : GoodIn wsL_law (wsV RL 61 RX9 yX9_forget wsX9_forget) := goodIn_app (goodIn_of _ (by decide +kernel)) ggL_law_X9_forget
set_option maxRecDepth 20000 in
theorem ggL_law_X10_forget : GoodIn wsL_law wsX10_forget := goodIn_r _ [459, 424, 756, 757, 758, 759, 760, 761, 762, 763, 764, 765, 766, 767, 768, 769, 770, 771, 772, 773, 774, 775, 776, 777, 778, 779, 780, 781, 782, 783, 784, 785, 786, 787, 788, 789, 790, 791, 792, 793, 794, 795, 796, 797, 798, 799, 800] (by decide +kernel) (by decide +kernel)
set_option maxRecDepth 20000 in
theorem gL_law_X10_forget : GoodIn wsL_law (wsV RL 64 RX10 yX10_forget wsX10_forget) := goodIn_app (goodIn_of _ (by decide +kernel)) ggL_law_X10_forget
set_option maxRecDepth 20000 in
theorem ggL_law_X9_place : GoodIn wsL_law wsX9_place := goodIn_r _ [463, 19, 464, 381, 382, 2, 383, 178, 179, 180, 184, 185, 186, 465, 416, 417, 78, 418, 84, 83, 404, 405, 406, 407, 85, 408, 409, 342, 410, 411, 412, 413, 414, 419, 401, 402, 403, 205, 206, 466, 467, 468, 469, 470, 741, 742, 743, 744, 745, 746, 747, 748, 749, 750, 751, 752, 753, 754, 755, 806, 807, 826, 827, 828] (by decide +kernel) (by decide +kernel)
set_option maxRecDepth 20000 in
theorem gL_law_X9_place : GoodIn wsL_law (wsV RL 65 RX9 yX9_place wsX9_place) := goodIn_app (goodIn_of _ (by decide +kernel)) ggL_law_X9_place
set_option maxRecDepth 20000 in
theorem ggL_law_X10_place : GoodIn wsL_law wsX10_place := goodIn_r _ [474, 432, 434, 425, 426, 5, 427, 232, 233, 234, 238, 239, 240, 435, 436, 437, 438, 139, 140, 141, 475, 476, 477, 756, 757, 758, 759, 760, 761, 762, 763, 764, 765, 766, 767, 768, 769, 770, 771, 772, 773, 774, 775, 776, 777, 778, 779, 780, 781, 782, 783, 784, 785, 786, 787, 788, 789, 790, 791, 792, 793, 794, 795, 796, 797, 798, 799, 800] (by decide +kernel) (by decide +kernel)
set_option maxRecDepth 20000 in
theorem gL_law_X10_place : GoodIn wsL_law (wsV RL 69 RX10 yX10_place wsX10_place) := goodIn_app (goodIn_of _ (by decide +kernel)) ggL_law_X10_place
set_option maxRecDepth 20000 in
theorem ggL_law_X9_nearest : GoodIn wsL_law wsX9_nearest := goodIn_r _ [481, 19, 464, 381, 382, 2, 383, 178, 179, 180, 482, 483, 484, 18, 485, 395, 396, 486, 487, 488, 489, 341, 342, 343, 490, 491, 492, 415, 416, 417, 78, 418, 84, 83, 404, 405, 406, 407, 85, 408, 409, 410, 411, 412, 413, 414, 419, 401, 402, 403, 205, 206, 400, 493, 494, 495, 741, 742, 743, 744, 745, 746, 747, 748, 749, 750, 751, 752, 753, 754, 755, 806, 807, 826, 827, 828] (by decide +kernel) (by decide +kernel)
set_option maxRecDepth 20000 in
theorem gL_law_X9_nearest : GoodIn wsL_law (wsV RL 70 RX9 yX9_nearest wsX9_nearest) := goodIn_app (goodIn_of _ (by decide +kernel)) ggL_law_X9_nearest
set_option maxRecDepth 20000 in
theorem ggL_law_X10_nearest : GoodIn wsL_law wsX10_nearest := goodIn_r _ [499, 432, 434, 425, 426, 5, 427, 232, 233, 234, 435, 436, 437, 438, 139, 140, 141, 756, 757, 758, 759, 760, 761, 762, 763, 764, 765, 766, 767, 768, 769, 770, 771, 772, 773, 774, 775, 776, 777, 778, 779, 780, 781, 782, 783, 784, 785, 786, 787, 788, 789, 790, 791, 792, 793, 794, 795, 796, 797, 798, 799, 800] (by decide +kernel) (by decide +kernel)
set_option maxRecDepth 20000 in
theorem gL_law_X10_nearest : GoodIn wsL_law (wsV RL 73 RX10 yX10_nearest wsX10_nearest) := goodIn_app (goodIn_of _ (by decide +kernel)) ggL_law_X10_nearest
set_option maxRecDepth 20000 in
theorem ggL_law_X9_stop : GoodIn wsL_law wsX9_stop := goodIn_r _ [503, 23, 504, 175, 176, 2, 177, 178, 179, 180, 505, 506, 507, 22, 508, 96, 94, 509, 510, 511, 512, 95, 741, 742, 743, 744, 745, 746, 747, 748, 749, 750, 751, 752, 753, 754, 755, 808, 809, 810] (by decide +kernel) (by decide +kernel)
set_option maxRecDepth 20000 in
theorem gL_law_X9_stop : GoodIn wsL_law (wsV RL 74 RX9 yX9_stop wsX9_stop) := goodIn_app (goodIn_of _ (by decide +kernel)) ggL_law_X9_stop
set_option maxRecDepth 20000 in
theorem ggL_law_X10_stop : GoodIn wsL_law wsX10_stop := goodIn_r _ [516, 144, 145, 517, 229, 230, 5, 231, 232, 233, 234, 518, 519, 520, 521, 756, 757, 758, 759, 760, 761, 762, 763, 764, 765, 766, 767, 768, 769, 770, 771, 772, 773, 774, 775, 776, 777, 778, 779, 780, 781, 782, 783, 784, 785, 786, 787, 788, 789, 790, 791, 792, 793, 794, 795, 796, 797, 798, 799, 800] (by decide +kernel) (by decide +kernel)
set_option maxRecDepth 20000 in
theorem gL_law_X10_stop : GoodIn wsL_law (wsV RL 77 RX10 yX10_stop wsX10_stop) := goodIn_app (goodIn_of _ (by decide +kernel)) ggL_law_X10_stop
set_option maxRecDepth 20000 in
theorem ggL_law_X9_start : GoodIn wsL_law wsX9_start := goodIn_r _ [525, 23, 504, 175, 176, 2, 177, 178, 179, 180, 505, 506, 507, 22, 508, 96, 94, 526, 527, 528, 529, 741, 742, 743, 744, 745, 746, 747, 748, 749, 750, 751, 752, 753, 754, 755, 808, 809, 810] (by decide +kernel) (by decide +kernel)
set_option maxRecDepth 20000 in
theorem gL_law_X9_start : GoodIn wsL_law (wsV RL 78 RX9 yX9_start wsX9_start) := goodIn_app (goodIn_of _ (by decide +kernel)) ggL_law_X9_start
set_option maxRecDepth 20000 in
theorem ggL_law_X10_start : GoodIn wsL_law wsX10_start := goodIn_r _ [533, 145, 144, 229, 230, 5, 231, 232, 233, 234, 518, 519, 520, 521, 756, 757, 758, 759, 760, 761, 762, 763, 764, 765, 766, 767, 768, 769, 770, 771, 772, 773, 774, 775, 776, 777, 778, 779, 780, 781, 782, 783, 784, 785, 786, 787, 788, 789, 790, 791, 792, 793, 794, 795, 796, 797, 798, 799, 800] (by decide +kernel) (by decide +kernel)
set_option maxRecDepth 20000 in
theorem gL_law_X10_start : GoodIn wsL_law (wsV RL 81 RX10 yX10_start wsX10_start) := goodIn_app (goodIn_of _ (by decide +kernel)) ggL_law_X10_start
set_option maxRecDepth 20000 in
theorem ggL_law_X9_job : GoodIn wsL_law wsX9_job := goodIn_r _ [537, 33, 175, 176, 2, 177, 178, 179, 180, 538, 539, 540, 741, 742, 743, 744, 745, 746, 747, 748, 749, 750, 751, 752, 753, 754, 755] (by decide +kernel) (by decide +kernel)
set_option maxRecDepth 20000 in
theorem gL_law_X9_job : GoodIn wsL_law (wsV RL 82 RX9 yX9_job wsX9_job) := goodIn_app (goodIn_of _ (by decide +kernel)) ggL_law_X9_job
set_option maxRecDepth 20000 in
theorem ggL_law_X10_job : GoodIn wsL_law wsX10_job := goodIn_r _ [544, 146, 229, 230, 5, 231, 232, 233, 234, 545, 546, 547, 756, 757, 758, 759, 760, 761, 762, 763, 764, 765, 766, 767, 768, 769, 770, 771, 772, 773, 774, 775, 776, 777, 778, 779, 780, 781, 782, 783, 784, 785, 786, 787, 788, 789, 790, 791, 792, 793, 794, 795, 796, 797, 798, 799, 800] (by decide +kernel) (by decide +kernel)
set_option maxRecDepth 20000 in
theorem gL_law_X10_job : GoodIn wsL_law (wsV RL 85 RX10 yX10_job wsX10_job) := goodIn_app (goodIn_of _ (by decide +kernel)) ggL_law_X10_job
set_option maxRecDepth 20000 in
theorem ggL_law_X9_aim : GoodIn wsL_law wsX9_aim := goodIn_r _ [551, 34, 35, 538, 539, 2, 540, 178, 179, 180, 552, 553, 554, 741, 742, 743, 744, 745, 746, 747, 748, 749, 750, 751, 752, 753, 754, 755] (by decide +kernel) (by decide +kernel)
set_option maxRecDepth 20000 in
theorem gL_law_X9_aim : GoodIn wsL_law (wsV RL 86 RX9 yX9_aim wsX9_aim) := goodIn_app (goodIn_of _ (by decide +kernel)) ggL_law_X9_aim
set_option maxRecDepth 20000 in
theorem ggL_law_X10_aim : GoodIn wsL_law wsX10_aim := goodIn_r _ [558, 148, 149, 545, 546, 5, 547, 232, 233, 234, 756, 757, 758, 759, 760, 761, 762, 763, 764, 765, 766, 767, 768, 769, 770, 771, 772, 773, 774, 775, 776, 777, 778, 779, 780, 781, 782, 783, 784, 785, 786, 787, 788, 789, 790, 791, 792, 793, 794, 795, 796, 797, 798, 799, 800] (by decide +kernel) (by decide +kernel)
set_option maxRecDepth 20000 in
theorem gL_law_X10_aim : GoodIn wsL_law (wsV RL 89 RX10 yX10_aim wsX10_aim) := goodIn_app (goodIn_of _ (by decide +kernel)) ggL_law_X10_aim
set_option maxRecDepth 20000 in
theorem ggL_law_X9_glass : GoodIn wsL_law wsX9_glass := goodIn_r _ [562, 37, 38, 552, 553, 2, 554, 178, 179, 180, 741, 742, 743, 744, 745, 746, 747, 748, 749, 750, 751, 752, 753, 754, 755] (by decide +kernel) (by decide +kernel)
set_option maxRecDepth 20000 in
theorem gL_law_X9_glass : GoodIn wsL_law (wsV RL 90 RX9 yX9_glass wsX9_glass) := goodIn_app (goodIn_of _ (by decide +kernel)) ggL_law_X9_glass
set_option maxRecDepth 20000 in
theorem ggL_law_X10_glass : GoodIn wsL_law wsX10_glass := goodIn_r _ [566, 567, 568, 232, 233, 5, 234, 756, 757, 758, 759, 760, 761, 762, 763, 764, 765, 766, 767, 768, 769, 770, 771, 772, 773, 774, 775, 776, 777, 778, 779, 780, 781, 782, 783, 784, 785, 786, 787, 788, 789, 790, 791, 792, 793, 794, 795, 796, 797, 798, 799, 800] (by decide +kernel) (by decide +kernel)
set_option maxRecDepth 20000 in
theorem gL_law_X10_glass : GoodIn wsL_law (wsV RL 93 RX10 yX10_glass wsX10_glass) := goodIn_app (goodIn_of _ (by decide +kernel)) ggL_law_X10_glass
set_option maxRecDepth 20000 in
theorem ggL_law_X9_mould : GoodIn wsL_law wsX9_mould := goodIn_r _ [572, 27, 573, 175, 176, 2, 177, 178, 179, 180, 574, 575, 576, 577, 578, 579, 26, 580, 107, 741, 742, 743, 744, 745, 746, 747, 748, 749, 750, 751, 752, 753, 754, 755, 811, 812, 813, 814, 815, 816] (by decide +kernel) (by decide +kernel)
set_option maxRecDepth 20000 in
theorem gL_law_X9_mould : GoodIn wsL_law (wsV RL 94 RX9 yX9_mould wsX9_mould) := goodIn_app (goodIn_of _ (by decide +kernel)) ggL_law_X9_mould
set_option maxRecDepth 20000 in
theorem ggL_law_X10_mould : GoodIn wsL_law wsX10_mould := goodIn_r _ [584, 147, 229, 230, 5, 231, 232, 233, 234, 585, 586, 587, 588, 589, 590, 591, 756, 757, 758, 759, 760, 761, 762, 763, 764, 765, 766, 767, 768, 769, 770, 771, 772, 773, 774, 775, 776, 777, 778, 779, 780, 781, 782, 783, 784, 785, 786, 787, 788, 789, 790, 791, 792, 793, 794, 795, 796, 797, 798, 799, 800] (by decide +kernel) (by decide +kernel)
set_option maxRecDepth 20000 in
theorem gL_law_X10_mould : GoodIn wsL_law (wsV RL 97 RX10 yX10_mould wsX10_mould) := goodIn_app (goodIn_of _ (by decide +kernel)) ggL_law_X10_mould
set_option maxRecDepth 20000 in
theorem ggL_law_X9_swab : GoodIn wsL_law wsX9_swab := goodIn_r _ [595, 27, 596, 574, 575, 2, 576, 178, 179, 180, 741, 742, 743, 744, 745, 746, 747, 748, 749, 750, 751, 752, 753, 754, 755, 811, 812, 813, 814, 815, 816] (by decide +kernel) (by decide +kernel)
set_option maxRecDepth 20000 in
theorem gL_law_X9_swab : GoodIn wsL_law (wsV RL 98 RX9 yX9_swab wsX9_swab) := goodIn_app (goodIn_of _ (by decide +kernel)) ggL_law_X9_swab
set_option maxRecDepth 20000 in
theorem ggL_law_X10_swab : GoodIn wsL_law wsX10_swab := goodIn_r _ [600, 151, 585, 586, 5, 587, 232, 233, 234, 756, 757, 758, 759, 760, 761, 762, 763, 764, 765, 766, 767, 768, 769, 770, 771, 772, 773, 774, 775, 776, 777, 778, 779, 780, 781, 782, 783, 784, 785, 786, 787, 788, 789, 790, 791, 792, 793, 794, 795, 796, 797, 798, 799, 800] (by decide +kernel) (by decide +kernel)
set_option maxRecDepth 20000 in
theorem gL_law_X10_swab : GoodIn wsL_law (wsV RL 101 RX10 yX10_swab wsX10_swab) := goodIn_app (goodIn_of _ (by decide +kernel)) ggL_law_X10_swab
set_option maxRecDepth 20000 in
theorem ggL_law_X9_repair : GoodIn wsL_law wsX9_repair := goodIn_r _ [604, 27, 605, 574, 575, 2, 576, 178, 179, 180, 606, 607, 608, 26, 609, 101, 102, 104, 741, 742, 743, 744, 745, 746, 747, 748, 749, 750, 751, 752, 753, 754, 755, 811, 812, 813, 814, 815, 816] (by decide +kernel) (by decide +kernel)
set_option maxRecDepth 20000 in
theorem gL_law_X9_repair : GoodIn wsL_law (wsV RL 102 RX9 yX9_repair wsX9_repair) := goodIn_app (goodIn_of _ (by decide +kernel)) ggL_law_X9_repair
set_option maxRecDepth 20000 in
theorem ggL_law_X10_repair : GoodIn wsL_law wsX10_repair := goodIn_r _ [613, 150, 151, 152, 585, 586, 5, 587, 232, 233, 234, 756, 757, 758, 759, 760, 761, 762, 763, 764, 765, 766, 767, 768, 769, 770, 771, 772, 773, 774, 775, 776, 777, 778, 779, 780, 781, 782, 783, 784, 785, 786, 787, 788, 789, 790, 791, 792, 793, 794, 795, 796, 797, 798, 799, 800] (by decide +kernel) (by decide +kernel)
set_option maxRecDepth 20000 in
theorem gL_law_X10_repair : GoodIn wsL_law (wsV RL 105 RX10 yX10_repair wsX10_repair) := goodIn_app (goodIn_of _ (by decide +kernel)) ggL_law_X10_repair
set_option maxRecDepth 20000 in
theorem ggL_law_X9_pull : GoodIn wsL_law wsX9_pull := goodIn_r _ [617, 27, 618, 574, 575, 2, 576, 178, 179, 180, 360, 361, 362, 741, 742, 743, 744, 745, 746, 747, 748, 749, 750, 751, 752, 753, 754, 755, 811, 812, 813, 814, 815, 816] (by decide +kernel) (by decide +kernel)
set_option maxRecDepth 20000 in
theorem gL_law_X9_pull : GoodIn wsL_law (wsV RL 106 RX9 yX9_pull wsX9_pull) := goodIn_app (goodIn_of _ (by decide +kernel)) ggL_law_X9_pull
set_option maxRecDepth 20000 in
theorem ggL_law_X10_pull : GoodIn wsL_law wsX10_pull := goodIn_r _ [622, 152, 585, 586, 5, 587, 232, 233, 234, 756, 757, 758, 759, 760, 761, 762, 763, 764, 765, 766, 767, 768, 769, 770, 771, 772, 773, 774, 775, 776, 777, 778, 779, 780, 781, 782, 783, 784, 785, 786, 787, 788, 789, 790, 791, 792, 793, 794, 795, 796, 797, 798, 799, 800] (by decide +kernel) (by decide +kernel)
set_option maxRecDepth 20000 in
theorem gL_law_X10_pull : GoodIn wsL_law (wsV RL 110 RX10 yX10_pull wsX10_pull) := goodIn_app (goodIn_of _ (by decide +kernel)) ggL_law_X10_pull
set_option maxRecDepth 20000 in
theorem ggL_law_X9_rule : GoodIn wsL_law wsX9_rule := goodIn_r _ [626, 40, 41, 178, 179, 2, 180, 741, 742, 743, 744, 745, 746, 747, 748, 749, 750, 751, 752, 753, 754, 755] (by decide +kernel) (by decide +kernel)
set_option maxRecDepth 20000 in
theorem gL_law_X9_rule : GoodIn wsL_law (wsV RL 111 RX9 yX9_rule wsX9_rule) := goodIn_app (goodIn_of _ (by decide +kernel)) ggL_law_X9_rule
set_option maxRecDepth 20000 in
theorem ggL_law_X10_rule : GoodIn wsL_law wsX10_rule := goodIn_r _ [630, 631, 156, 232, 233, 5, 234, 756, 757, 758, 759, 760, 761, 762, 763, 764, 765, 766, 767, 768, 769, 770, 771, 772, 773, 774, 775, 776, 777, 778, 779, 780, 781, 782, 783, 784, 785, 786, 787, 788, 789, 790, 791, 792, 793, 794, 795, 796, 797, 798, 799, 800] (by decide +kernel) (by decide +kernel)
set_option maxRecDepth 20000 in
theorem gL_law_X10_rule : GoodIn wsL_law (wsV RL 114 RX10 yX10_rule wsX10_rule) := goodIn_app (goodIn_of _ (by decide +kernel)) ggL_law_X10_rule
set_option maxRecDepth 20000 in
theorem ggL_law_X9_book : GoodIn wsL_law wsX9_book := goodIn_r _ [635, 27, 605, 596, 618, 636, 637, 574, 575, 2, 576, 178, 179, 180, 360, 361, 362, 577, 578, 579, 26, 580, 107, 741, 742, 743, 744, 745, 746, 747, 748, 749, 750, 751, 752, 753, 754, 755, 811, 812, 813, 814, 815, 816] (by decide +kernel) (by decide +kernel)
set_option maxRecDepth 20000 in
theorem gL_law_X9_book : GoodIn wsL_law (wsV RL 115 RX9 yX9_book wsX9_book) := goodIn_app (goodIn_of _ (by decide +kernel)) ggL_law_X9_book
set_option maxRecDepth 20000 in
theorem ggL_law_X10_book : GoodIn wsL_law wsX10_book := goodIn_r _ [641, 150, 151, 152, 153, 154, 585, 586, 5, 587, 232, 233, 234, 588, 589, 590, 591, 147, 756, 757, 758, 759, 760, 761, 762, 763, 764, 765, 766, 767, 768, 769, 770, 771, 772, 773, 774, 775, 776, 777, 778, 779, 780, 781, 782, 783, 784, 785, 786, 787, 788, 789, 790, 791, 792, 793, 794, 795, 796, 797, 798, 799, 800] (by decide +kernel) (by decide +kernel)
set_option maxRecDepth 20000 in
theorem gL_law_X10_book : GoodIn wsL_law (wsV RL 118 RX10 yX10_book wsX10_book) := goodIn_app (goodIn_of _ (by decide +kernel)) ggL_law_X10_book
set_option maxRecDepth 20000 in
theorem ggL_law_X9_cut : GoodIn wsL_law wsX9_cut := goodIn_r _ [645, 23, 504, 31, 646, 178, 179, 2, 180, 647, 648, 649, 650, 36, 27, 651, 652, 39, 653, 654, 655, 341, 342, 343, 470, 409, 410, 656, 657, 658, 30, 659, 113, 114, 115, 660, 661, 662, 663, 664, 618, 665, 666, 667, 668, 669, 670, 26, 671, 105, 106, 672, 673, 674, 675, 573, 33, 605, 596, 42, 676, 677, 34, 40, 38, 678, 679, 680, 22, 681, 96, 94, 95, 682, 683, 684, 685, 686, 687, 688, 689, 690, 691, 692, 693, 694, 695, 696, 697, 35, 37, 41, 741, 742, 743, 744, 745, 746, 747, 748, 749, 750, 751, 752, 753, 754, 755, 808, 809, 810, 817, 818, 819, 829, 830, 831, 832, 833, 834, 835, 811, 812, 813, 814, 815, 816] (by decide +kernel) (by decide +kernel)
set_option maxRecDepth 20000 in
theorem gL_law_X9_cut : GoodIn wsL_law (wsV RL 119 RX9 yX9_cut wsX9_cut) := goodIn_app (goodIn_of _ (by decide +kernel)) ggL_law_X9_cut
set_option maxRecDepth 20000 in
theorem ggL_law_X10_cut : GoodIn wsL_law wsX10_cut := goodIn_r _ [701, 144, 702, 232, 233, 5, 234, 703, 704, 705, 706, 164, 153, 159, 154, 157, 155, 162, 161, 158, 160, 163, 707, 708, 709, 710, 152, 711, 712, 713, 714, 145, 517, 147, 146, 150, 151, 715, 631, 148, 568, 567, 149, 156, 756, 757, 758, 759, 760, 761, 762, 763, 764, 765, 766, 767, 768, 769, 770, 771, 772, 773, 774, 775, 776, 777, 778, 779, 780, 781, 782, 783, 784, 785, 786, 787, 788, 789, 790, 791, 792, 793, 794, 795, 796, 797, 798, 799, 800] (by decide +kernel) (by decide +kernel)
set_option maxRecDepth 20000 in
theorem gL_law_X10_cut : GoodIn wsL_law (wsV RL 122 RX10 yX10_cut wsX10_cut) := goodIn_app (goodIn_of _ (by decide +kernel)) ggL_law_X10_cut
set_option maxRecDepth 20000 in
theorem ggL_law_X9_drain : GoodIn wsL_law wsX9_drain := goodIn_r _ [719, 31, 646, 647, 648, 649, 2, 650, 36, 27, 651, 652, 39, 653, 654, 655, 341, 342, 343, 470, 409, 410, 656, 657, 658, 30, 659, 113, 114, 115, 660, 661, 662, 663, 664, 618, 665, 666, 667, 668, 669, 670, 26, 671, 105, 106, 741, 742, 743, 744, 745, 746, 747, 748, 749, 750, 751, 752, 753, 754, 755, 817, 818, 819, 829, 830, 831, 832, 833, 834, 835, 811, 812, 813, 814, 815, 816] (by decide +kernel) (by decide +kernel)
set_option maxRecDepth 20000 in
theorem gL_law_X9_drain : GoodIn wsL_law (wsV RL 123 RX9 yX9_drain wsX9_drain) := goodIn_app (goodIn_of _ (by decide +kernel)) ggL_law_X9_drain
set_option maxRecDepth 20000 in
theorem ggL_law_X10_drain : GoodIn wsL_law wsX10_drain := goodIn_r _ [723, 702, 703, 704, 705, 5, 706, 164, 153, 159, 154, 157, 155, 162, 161, 158, 160, 163, 707, 708, 709, 710, 152, 756, 757, 758, 759, 760, 761, 762, 763, 764, 765, 766, 767, 768, 769, 770, 771, 772, 773, 774, 775, 776, 777, 778, 779, 780, 781, 782, 783, 784, 785, 786, 787, 788, 789, 790, 791, 792, 793, 794, 795, 796, 797, 798, 799, 800] (by decide +kernel) (by decide +kernel)
set_option maxRecDepth 20000 in
theorem gL_law_X10_drain : GoodIn wsL_law (wsV RL 126 RX10 yX10_drain wsX10_drain) := goodIn_app (goodIn_of _ (by decide +kernel)) ggL_law_X10_drain
set_option maxRecDepth 20000 in
theorem ggL_law_X9_bottle : GoodIn wsL_law wsX9_bottle := goodIn_r _ [727, 31, 646, 652, 676, 651, 677, 654, 728, 691, 692, 30, 693, 113, 114, 660, 661, 662, 2, 663, 664, 27, 618, 653, 665, 666, 342, 667, 741, 742, 743, 744, 745, 746, 747, 748, 749, 750, 751, 752, 753, 754, 755, 817, 818, 819, 829, 830, 831, 832, 833, 834, 835, 811, 812, 813, 814, 815, 816] (by decide +kernel) (by decide +kernel)
set_option maxRecDepth 20000 in
theorem gL_law_X9_bottle : GoodIn wsL_law (wsV RL 127 RX9 yX9_bottle wsX9_bottle) := goodIn_app (goodIn_of _ (by decide +kernel)) ggL_law_X9_bottle
set_option maxRecDepth 20000 in
theorem ggL_law_X10_bottle : GoodIn wsL_law wsX10_bottle := goodIn_r _ [732, 702, 157, 158, 159, 160, 161, 232, 233, 5, 234, 707, 708, 709, 710, 163, 162, 152, 756, 757, 758, 759, 760, 761, 762, 763, 764, 765, 766, 767, 768, 769, 770, 771, 772, 773, 774, 775, 776, 777, 778, 779, 780, 781, 782, 783, 784, 785, 786, 787, 788, 789, 790, 791, 792, 793, 794, 795, 796, 797, 798, 799, 800] (by decide +kernel) (by decide +kernel)
set_option maxRecDepth 20000 in
theorem gL_law_X10_bottle : GoodIn wsL_law (wsV RL 130 RX10 yX10_bottle wsX10_bottle) := goodIn_app (goodIn_of _ (by decide +kernel)) ggL_law_X10_bottle
set_option maxRecDepth 20000 in
theorem ggL_law_X9_many : GoodIn wsL_law wsX9_many := goodIn_r _ [736, 36, 42, 31, 646, 23, 504, 39, 38, 15, 287, 289, 37, 178, 179, 2, 180, 678, 679, 680, 22, 681, 96, 94, 95, 741, 742, 743, 744, 745, 746, 747, 748, 749, 750, 751, 752, 753, 754, 755, 817, 818, 819, 808, 809, 810, 801, 802, 803, 804, 805] (by decide +kernel) (by decide +kernel)
set_option maxRecDepth 20000 in
theorem gL_law_X9_many : GoodIn wsL_law (wsV RL 131 RX9 yX9_many wsX9_many) := goodIn_app (goodIn_of _ (by decide +kernel)) ggL_law_X9_many
set_option maxRecDepth 20000 in
theorem ggL_law_X10_many : GoodIn wsL_law wsX10_many := goodIn_r _ [740, 164, 715, 702, 144, 155, 145, 517, 568, 245, 138, 567, 232, 233, 5, 234, 756, 757, 758, 759, 760, 761, 762, 763, 764, 765, 766, 767, 768, 769, 770, 771, 772, 773, 774, 775, 776, 777, 778, 779, 780, 781, 782, 783, 784, 785, 786, 787, 788, 789, 790, 791, 792, 793, 794, 795, 796, 797, 798, 799, 800] (by decide +kernel) (by decide +kernel)
set_option maxRecDepth 20000 in
theorem gL_law_X10_many : GoodIn wsL_law (wsV RL 134 RX10 yX10_many wsX10_many) := goodIn_app (goodIn_of _ (by decide +kernel)) ggL_law_X10_many
theorem dL_law_0 : decode cL_law 0 = .ok (.new 7, 3) := by decide +kernel
theorem dL_law_3 : decode cL_law 3 = .ok (.dup, 1) := by decide +kernel
theorem dL_law_4 : decode cL_law 4 = .ok (.invokespecial 9, 3) := by decide +kernel
theorem dL_law_7 : decode cL_law 7 = .ok (.astore_n 1, 1) := by decide +kernel
theorem dL_law_8 : decode cL_law 8 = .ok (.new 10, 3) := by decide +kernel
theorem dL_law_11 : decode cL_law 11 = .ok (.dup, 1) := by decide +kernel
theorem dL_law_12 : decode cL_law 12 = .ok (.invokespecial 12, 3) := by decide +kernel
theorem dL_law_15 : decode cL_law 15 = .ok (.astore_n 2, 1) := by decide +kernel
theorem dL_law_16 : decode cL_law 16 = .ok (.iconst 0, 1) := by decide +kernel
theorem dL_law_17 : decode cL_law 17 = .ok (.istore_n 3, 1) := by decide +kernel
theorem dL_law_18 : decode cL_law 18 = .ok (.iload_n 3, 1) := by decide +kernel
theorem dL_law_19 : decode cL_law 19 = .ok (.aload_n 0, 1) := by decide +kernel
theorem dL_law_20 : decode cL_law 20 = .ok (.arraylength, 1) := by decide +kernel
theorem dL_law_21 : decode cL_law 21 = .ok (.iconst 5, 1) := by decide +kernel
theorem dL_law_22 : decode cL_law 22 = .ok (.isub, 1) := by decide +kernel
theorem dL_law_23 : decode cL_law 23 = .ok (.if_icmp .gt 1060, 3) := by decide +kernel
theorem dL_law_26 : decode cL_law 26 = .ok (.aload_n 0, 1) := by decide +kernel
theorem dL_law_27 : decode cL_law 27 = .ok (.iload_n 3, 1) := by decide +kernel
theorem dL_law_28 : decode cL_law 28 = .ok (.iaload, 1) := by decide +kernel
theorem dL_law_29 : decode cL_law 29 = .ok (.bipush 31, 2) := by decide +kernel
theorem dL_law_31 : decode cL_law 31 = .ok (.iand, 1) := by decide +kernel
theorem dL_law_32 : decode cL_law 32 = .ok (.tableswitch 1045 0 28 #[132, 185, 218, 251, 304, 317, 340, 353, 406, 459, 482, 515, 528, 571, 604, 627, 650, 683, 726, 759, 792, 815, 838, 887, 920, 953, 976, 989, 1022], 132) := by decide +kernel
theorem dL_law_164 : decode cL_law 164 = .ok (.aload_n 1, 1) := by decide +kernel
theorem dL_law_165 : decode cL_law 165 = .ok (.aload_n 0, 1) := by decide +kernel
theorem dL_law_166 : decode cL_law 166 = .ok (.iload_n 3, 1) := by decide +kernel
theorem dL_law_167 : decode cL_law 167 = .ok (.iconst 1, 1) := by decide +kernel
theorem dL_law_168 : decode cL_law 168 = .ok (.iadd, 1) := by decide +kernel
theorem dL_law_169 : decode cL_law 169 = .ok (.iaload, 1) := by decide +kernel
theorem dL_law_170 : decode cL_law 170 = .ok (.aload_n 0, 1) := by decide +kernel
theorem dL_law_171 : decode cL_law 171 = .ok (.iload_n 3, 1) := by decide +kernel
theorem dL_law_172 : decode cL_law 172 = .ok (.iconst 2, 1) := by decide +kernel
theorem dL_law_173 : decode cL_law 173 = .ok (.iadd, 1) := by decide +kernel
theorem dL_law_174 : decode cL_law 174 = .ok (.iaload, 1) := by decide +kernel
theorem dL_law_175 : decode cL_law 175 = .ok (.aload_n 0, 1) := by decide +kernel
theorem dL_law_176 : decode cL_law 176 = .ok (.iload_n 3, 1) := by decide +kernel
theorem dL_law_177 : decode cL_law 177 = .ok (.iconst 3, 1) := by decide +kernel
theorem dL_law_178 : decode cL_law 178 = .ok (.iadd, 1) := by decide +kernel
theorem dL_law_179 : decode cL_law 179 = .ok (.iaload, 1) := by decide +kernel
theorem dL_law_180 : decode cL_law 180 = .ok (.aload_n 0, 1) := by decide +kernel
theorem dL_law_181 : decode cL_law 181 = .ok (.iload_n 3, 1) := by decide +kernel
theorem dL_law_182 : decode cL_law 182 = .ok (.iconst 4, 1) := by decide +kernel
theorem dL_law_183 : decode cL_law 183 = .ok (.iadd, 1) := by decide +kernel
theorem dL_law_184 : decode cL_law 184 = .ok (.iaload, 1) := by decide +kernel
theorem dL_law_185 : decode cL_law 185 = .ok (.invokevirtual 13, 3) := by decide +kernel
theorem dL_law_188 : decode cL_law 188 = .ok (.aload_n 2, 1) := by decide +kernel
theorem dL_law_189 : decode cL_law 189 = .ok (.aload_n 0, 1) := by decide +kernel
theorem dL_law_190 : decode cL_law 190 = .ok (.iload_n 3, 1) := by decide +kernel
theorem dL_law_191 : decode cL_law 191 = .ok (.iconst 1, 1) := by decide +kernel
theorem dL_law_192 : decode cL_law 192 = .ok (.iadd, 1) := by decide +kernel
theorem dL_law_193 : decode cL_law 193 = .ok (.iaload, 1) := by decide +kernel
theorem dL_law_194 : decode cL_law 194 = .ok (.aload_n 0, 1) := by decide +kernel
theorem dL_law_195 : decode cL_law 195 = .ok (.iload_n 3, 1) := by decide +kernel
theorem dL_law_196 : decode cL_law 196 = .ok (.iconst 2, 1) := by decide +kernel
theorem dL_law_197 : decode cL_law 197 = .ok (.iadd, 1) := by decide +kernel
theorem dL_law_198 : decode cL_law 198 = .ok (.iaload, 1) := by decide +kernel
theorem dL_law_199 : decode cL_law 199 = .ok (.aload_n 0, 1) := by decide +kernel
theorem dL_law_200 : decode cL_law 200 = .ok (.iload_n 3, 1) := by decide +kernel
theorem dL_law_201 : decode cL_law 201 = .ok (.iconst 3, 1) := by decide +kernel
theorem dL_law_202 : decode cL_law 202 = .ok (.iadd, 1) := by decide +kernel
theorem dL_law_203 : decode cL_law 203 = .ok (.iaload, 1) := by decide +kernel
theorem dL_law_204 : decode cL_law 204 = .ok (.aload_n 0, 1) := by decide +kernel
theorem dL_law_205 : decode cL_law 205 = .ok (.iload_n 3, 1) := by decide +kernel
theorem dL_law_206 : decode cL_law 206 = .ok (.iconst 4, 1) := by decide +kernel
theorem dL_law_207 : decode cL_law 207 = .ok (.iadd, 1) := by decide +kernel
theorem dL_law_208 : decode cL_law 208 = .ok (.iaload, 1) := by decide +kernel
theorem dL_law_209 : decode cL_law 209 = .ok (.invokevirtual 17, 3) := by decide +kernel
theorem dL_law_212 : decode cL_law 212 = .ok (.if_icmp .eq 865, 3) := by decide +kernel
theorem dL_law_215 : decode cL_law 215 = .ok (.iconst 0, 1) := by decide +kernel
theorem dL_law_216 : decode cL_law 216 = .ok (.ireturn, 1) := by decide +kernel
theorem dL_law_217 : decode cL_law 217 = .ok (.aload_n 1, 1) := by decide +kernel
theorem dL_law_218 : decode cL_law 218 = .ok (.aload_n 0, 1) := by decide +kernel
theorem dL_law_219 : decode cL_law 219 = .ok (.iload_n 3, 1) := by decide +kernel
theorem dL_law_220 : decode cL_law 220 = .ok (.iconst 1, 1) := by decide +kernel
theorem dL_law_221 : decode cL_law 221 = .ok (.iadd, 1) := by decide +kernel
theorem dL_law_222 : decode cL_law 222 = .ok (.iaload, 1) := by decide +kernel
theorem dL_law_223 : decode cL_law 223 = .ok (.aload_n 0, 1) := by decide +kernel
theorem dL_law_224 : decode cL_law 224 = .ok (.iload_n 3, 1) := by decide +kernel
theorem dL_law_225 : decode cL_law 225 = .ok (.iconst 2, 1) := by decide +kernel
theorem dL_law_226 : decode cL_law 226 = .ok (.iadd, 1) := by decide +kernel
theorem dL_law_227 : decode cL_law 227 = .ok (.iaload, 1) := by decide +kernel
theorem dL_law_228 : decode cL_law 228 = .ok (.invokevirtual 18, 3) := by decide +kernel
theorem dL_law_231 : decode cL_law 231 = .ok (.aload_n 2, 1) := by decide +kernel
theorem dL_law_232 : decode cL_law 232 = .ok (.aload_n 0, 1) := by decide +kernel
theorem dL_law_233 : decode cL_law 233 = .ok (.iload_n 3, 1) := by decide +kernel
theorem dL_law_234 : decode cL_law 234 = .ok (.iconst 1, 1) := by decide +kernel
theorem dL_law_235 : decode cL_law 235 = .ok (.iadd, 1) := by decide +kernel
theorem dL_law_236 : decode cL_law 236 = .ok (.iaload, 1) := by decide +kernel
theorem dL_law_237 : decode cL_law 237 = .ok (.aload_n 0, 1) := by decide +kernel
theorem dL_law_238 : decode cL_law 238 = .ok (.iload_n 3, 1) := by decide +kernel
theorem dL_law_239 : decode cL_law 239 = .ok (.iconst 2, 1) := by decide +kernel
theorem dL_law_240 : decode cL_law 240 = .ok (.iadd, 1) := by decide +kernel
theorem dL_law_241 : decode cL_law 241 = .ok (.iaload, 1) := by decide +kernel
theorem dL_law_242 : decode cL_law 242 = .ok (.invokevirtual 22, 3) := by decide +kernel
theorem dL_law_245 : decode cL_law 245 = .ok (.if_icmp .eq 832, 3) := by decide +kernel
theorem dL_law_248 : decode cL_law 248 = .ok (.iconst 0, 1) := by decide +kernel
theorem dL_law_249 : decode cL_law 249 = .ok (.ireturn, 1) := by decide +kernel
theorem dL_law_250 : decode cL_law 250 = .ok (.aload_n 1, 1) := by decide +kernel
theorem dL_law_251 : decode cL_law 251 = .ok (.aload_n 0, 1) := by decide +kernel
theorem dL_law_252 : decode cL_law 252 = .ok (.iload_n 3, 1) := by decide +kernel
theorem dL_law_253 : decode cL_law 253 = .ok (.iconst 1, 1) := by decide +kernel
theorem dL_law_254 : decode cL_law 254 = .ok (.iadd, 1) := by decide +kernel
theorem dL_law_255 : decode cL_law 255 = .ok (.iaload, 1) := by decide +kernel
theorem dL_law_256 : decode cL_law 256 = .ok (.aload_n 0, 1) := by decide +kernel
theorem dL_law_257 : decode cL_law 257 = .ok (.iload_n 3, 1) := by decide +kernel
theorem dL_law_258 : decode cL_law 258 = .ok (.iconst 2, 1) := by decide +kernel
theorem dL_law_259 : decode cL_law 259 = .ok (.iadd, 1) := by decide +kernel
theorem dL_law_260 : decode cL_law 260 = .ok (.iaload, 1) := by decide +kernel
theorem dL_law_261 : decode cL_law 261 = .ok (.invokevirtual 23, 3) := by decide +kernel
theorem dL_law_264 : decode cL_law 264 = .ok (.aload_n 2, 1) := by decide +kernel
theorem dL_law_265 : decode cL_law 265 = .ok (.aload_n 0, 1) := by decide +kernel
theorem dL_law_266 : decode cL_law 266 = .ok (.iload_n 3, 1) := by decide +kernel
theorem dL_law_267 : decode cL_law 267 = .ok (.iconst 1, 1) := by decide +kernel
theorem dL_law_268 : decode cL_law 268 = .ok (.iadd, 1) := by decide +kernel
theorem dL_law_269 : decode cL_law 269 = .ok (.iaload, 1) := by decide +kernel
theorem dL_law_270 : decode cL_law 270 = .ok (.aload_n 0, 1) := by decide +kernel
theorem dL_law_271 : decode cL_law 271 = .ok (.iload_n 3, 1) := by decide +kernel
theorem dL_law_272 : decode cL_law 272 = .ok (.iconst 2, 1) := by decide +kernel
theorem dL_law_273 : decode cL_law 273 = .ok (.iadd, 1) := by decide +kernel
theorem dL_law_274 : decode cL_law 274 = .ok (.iaload, 1) := by decide +kernel
theorem dL_law_275 : decode cL_law 275 = .ok (.invokevirtual 26, 3) := by decide +kernel
theorem dL_law_278 : decode cL_law 278 = .ok (.if_icmp .eq 799, 3) := by decide +kernel
theorem dL_law_281 : decode cL_law 281 = .ok (.iconst 0, 1) := by decide +kernel
theorem dL_law_282 : decode cL_law 282 = .ok (.ireturn, 1) := by decide +kernel
theorem dL_law_283 : decode cL_law 283 = .ok (.aload_n 1, 1) := by decide +kernel
theorem dL_law_284 : decode cL_law 284 = .ok (.aload_n 0, 1) := by decide +kernel
theorem dL_law_285 : decode cL_law 285 = .ok (.iload_n 3, 1) := by decide +kernel
theorem dL_law_286 : decode cL_law 286 = .ok (.iconst 1, 1) := by decide +kernel
theorem dL_law_287 : decode cL_law 287 = .ok (.iadd, 1) := by decide +kernel
theorem dL_law_288 : decode cL_law 288 = .ok (.iaload, 1) := by decide +kernel
theorem dL_law_289 : decode cL_law 289 = .ok (.aload_n 0, 1) := by decide +kernel
theorem dL_law_290 : decode cL_law 290 = .ok (.iload_n 3, 1) := by decide +kernel
theorem dL_law_291 : decode cL_law 291 = .ok (.iconst 2, 1) := by decide +kernel
theorem dL_law_292 : decode cL_law 292 = .ok (.iadd, 1) := by decide +kernel
theorem dL_law_293 : decode cL_law 293 = .ok (.iaload, 1) := by decide +kernel
theorem dL_law_294 : decode cL_law 294 = .ok (.aload_n 0, 1) := by decide +kernel
theorem dL_law_295 : decode cL_law 295 = .ok (.iload_n 3, 1) := by decide +kernel
theorem dL_law_296 : decode cL_law 296 = .ok (.iconst 3, 1) := by decide +kernel
theorem dL_law_297 : decode cL_law 297 = .ok (.iadd, 1) := by decide +kernel
theorem dL_law_298 : decode cL_law 298 = .ok (.iaload, 1) := by decide +kernel
theorem dL_law_299 : decode cL_law 299 = .ok (.aload_n 0, 1) := by decide +kernel
theorem dL_law_300 : decode cL_law 300 = .ok (.iload_n 3, 1) := by decide +kernel
theorem dL_law_301 : decode cL_law 301 = .ok (.iconst 4, 1) := by decide +kernel
theorem dL_law_302 : decode cL_law 302 = .ok (.iadd, 1) := by decide +kernel
theorem dL_law_303 : decode cL_law 303 = .ok (.iaload, 1) := by decide +kernel
theorem dL_law_304 : decode cL_law 304 = .ok (.invokevirtual 27, 3) := by decide +kernel
theorem dL_law_307 : decode cL_law 307 = .ok (.aload_n 2, 1) := by decide +kernel
theorem dL_law_308 : decode cL_law 308 = .ok (.aload_n 0, 1) := by decide +kernel
theorem dL_law_309 : decode cL_law 309 = .ok (.iload_n 3, 1) := by decide +kernel
theorem dL_law_310 : decode cL_law 310 = .ok (.iconst 1, 1) := by decide +kernel
theorem dL_law_311 : decode cL_law 311 = .ok (.iadd, 1) := by decide +kernel
theorem dL_law_312 : decode cL_law 312 = .ok (.iaload, 1) := by decide +kernel
theorem dL_law_313 : decode cL_law 313 = .ok (.aload_n 0, 1) := by decide +kernel
theorem dL_law_314 : decode cL_law 314 = .ok (.iload_n 3, 1) := by decide +kernel
theorem dL_law_315 : decode cL_law 315 = .ok (.iconst 2, 1) := by decide +kernel
theorem dL_law_316 : decode cL_law 316 = .ok (.iadd, 1) := by decide +kernel
theorem dL_law_317 : decode cL_law 317 = .ok (.iaload, 1) := by decide +kernel
theorem dL_law_318 : decode cL_law 318 = .ok (.aload_n 0, 1) := by decide +kernel
theorem dL_law_319 : decode cL_law 319 = .ok (.iload_n 3, 1) := by decide +kernel
theorem dL_law_320 : decode cL_law 320 = .ok (.iconst 3, 1) := by decide +kernel
theorem dL_law_321 : decode cL_law 321 = .ok (.iadd, 1) := by decide +kernel
theorem dL_law_322 : decode cL_law 322 = .ok (.iaload, 1) := by decide +kernel
theorem dL_law_323 : decode cL_law 323 = .ok (.aload_n 0, 1) := by decide +kernel
theorem dL_law_324 : decode cL_law 324 = .ok (.iload_n 3, 1) := by decide +kernel
theorem dL_law_325 : decode cL_law 325 = .ok (.iconst 4, 1) := by decide +kernel
theorem dL_law_326 : decode cL_law 326 = .ok (.iadd, 1) := by decide +kernel
theorem dL_law_327 : decode cL_law 327 = .ok (.iaload, 1) := by decide +kernel
theorem dL_law_328 : decode cL_law 328 = .ok (.invokevirtual 30, 3) := by decide +kernel
theorem dL_law_331 : decode cL_law 331 = .ok (.if_icmp .eq 746, 3) := by decide +kernel
theorem dL_law_334 : decode cL_law 334 = .ok (.iconst 0, 1) := by decide +kernel
theorem dL_law_335 : decode cL_law 335 = .ok (.ireturn, 1) := by decide +kernel
theorem dL_law_336 : decode cL_law 336 = .ok (.aload_n 1, 1) := by decide +kernel
theorem dL_law_337 : decode cL_law 337 = .ok (.invokevirtual 31, 3) := by decide +kernel
theorem dL_law_340 : decode cL_law 340 = .ok (.aload_n 2, 1) := by decide +kernel
theorem dL_law_341 : decode cL_law 341 = .ok (.invokevirtual 35, 3) := by decide +kernel
theorem dL_law_344 : decode cL_law 344 = .ok (.if_icmp .eq 733, 3) := by decide +kernel
theorem dL_law_347 : decode cL_law 347 = .ok (.iconst 0, 1) := by decide +kernel
theorem dL_law_348 : decode cL_law 348 = .ok (.ireturn, 1) := by decide +kernel
theorem dL_law_349 : decode cL_law 349 = .ok (.aload_n 1, 1) := by decide +kernel
theorem dL_law_350 : decode cL_law 350 = .ok (.aload_n 0, 1) := by decide +kernel
theorem dL_law_351 : decode cL_law 351 = .ok (.iload_n 3, 1) := by decide +kernel
theorem dL_law_352 : decode cL_law 352 = .ok (.iconst 1, 1) := by decide +kernel
theorem dL_law_353 : decode cL_law 353 = .ok (.iadd, 1) := by decide +kernel
theorem dL_law_354 : decode cL_law 354 = .ok (.iaload, 1) := by decide +kernel
theorem dL_law_355 : decode cL_law 355 = .ok (.invokevirtual 36, 3) := by decide +kernel
theorem dL_law_358 : decode cL_law 358 = .ok (.aload_n 2, 1) := by decide +kernel
theorem dL_law_359 : decode cL_law 359 = .ok (.aload_n 0, 1) := by decide +kernel
theorem dL_law_360 : decode cL_law 360 = .ok (.iload_n 3, 1) := by decide +kernel
theorem dL_law_361 : decode cL_law 361 = .ok (.iconst 1, 1) := by decide +kernel
theorem dL_law_362 : decode cL_law 362 = .ok (.iadd, 1) := by decide +kernel
theorem dL_law_363 : decode cL_law 363 = .ok (.iaload, 1) := by decide +kernel
theorem dL_law_364 : decode cL_law 364 = .ok (.invokevirtual 40, 3) := by decide +kernel
theorem dL_law_367 : decode cL_law 367 = .ok (.if_icmp .eq 710, 3) := by decide +kernel
theorem dL_law_370 : decode cL_law 370 = .ok (.iconst 0, 1) := by decide +kernel
theorem dL_law_371 : decode cL_law 371 = .ok (.ireturn, 1) := by decide +kernel
theorem dL_law_372 : decode cL_law 372 = .ok (.aload_n 1, 1) := by decide +kernel
theorem dL_law_373 : decode cL_law 373 = .ok (.invokevirtual 41, 3) := by decide +kernel
theorem dL_law_376 : decode cL_law 376 = .ok (.aload_n 2, 1) := by decide +kernel
theorem dL_law_377 : decode cL_law 377 = .ok (.invokevirtual 44, 3) := by decide +kernel
theorem dL_law_380 : decode cL_law 380 = .ok (.if_icmp .eq 697, 3) := by decide +kernel
theorem dL_law_383 : decode cL_law 383 = .ok (.iconst 0, 1) := by decide +kernel
theorem dL_law_384 : decode cL_law 384 = .ok (.ireturn, 1) := by decide +kernel
theorem dL_law_385 : decode cL_law 385 = .ok (.aload_n 1, 1) := by decide +kernel
theorem dL_law_386 : decode cL_law 386 = .ok (.aload_n 0, 1) := by decide +kernel
theorem dL_law_387 : decode cL_law 387 = .ok (.iload_n 3, 1) := by decide +kernel
theorem dL_law_388 : decode cL_law 388 = .ok (.iconst 1, 1) := by decide +kernel
theorem dL_law_389 : decode cL_law 389 = .ok (.iadd, 1) := by decide +kernel
theorem dL_law_390 : decode cL_law 390 = .ok (.iaload, 1) := by decide +kernel
theorem dL_law_391 : decode cL_law 391 = .ok (.aload_n 0, 1) := by decide +kernel
theorem dL_law_392 : decode cL_law 392 = .ok (.iload_n 3, 1) := by decide +kernel
theorem dL_law_393 : decode cL_law 393 = .ok (.iconst 2, 1) := by decide +kernel
theorem dL_law_394 : decode cL_law 394 = .ok (.iadd, 1) := by decide +kernel
theorem dL_law_395 : decode cL_law 395 = .ok (.iaload, 1) := by decide +kernel
theorem dL_law_396 : decode cL_law 396 = .ok (.aload_n 0, 1) := by decide +kernel
theorem dL_law_397 : decode cL_law 397 = .ok (.iload_n 3, 1) := by decide +kernel
theorem dL_law_398 : decode cL_law 398 = .ok (.iconst 3, 1) := by decide +kernel
theorem dL_law_399 : decode cL_law 399 = .ok (.iadd, 1) := by decide +kernel
theorem dL_law_400 : decode cL_law 400 = .ok (.iaload, 1) := by decide +kernel
theorem dL_law_401 : decode cL_law 401 = .ok (.aload_n 0, 1) := by decide +kernel
theorem dL_law_402 : decode cL_law 402 = .ok (.iload_n 3, 1) := by decide +kernel
theorem dL_law_403 : decode cL_law 403 = .ok (.iconst 4, 1) := by decide +kernel
theorem dL_law_404 : decode cL_law 404 = .ok (.iadd, 1) := by decide +kernel
theorem dL_law_405 : decode cL_law 405 = .ok (.iaload, 1) := by decide +kernel
theorem dL_law_406 : decode cL_law 406 = .ok (.invokevirtual 45, 3) := by decide +kernel
theorem dL_law_409 : decode cL_law 409 = .ok (.aload_n 2, 1) := by decide +kernel
theorem dL_law_410 : decode cL_law 410 = .ok (.aload_n 0, 1) := by decide +kernel
theorem dL_law_411 : decode cL_law 411 = .ok (.iload_n 3, 1) := by decide +kernel
theorem dL_law_412 : decode cL_law 412 = .ok (.iconst 1, 1) := by decide +kernel
theorem dL_law_413 : decode cL_law 413 = .ok (.iadd, 1) := by decide +kernel
theorem dL_law_414 : decode cL_law 414 = .ok (.iaload, 1) := by decide +kernel
theorem dL_law_415 : decode cL_law 415 = .ok (.aload_n 0, 1) := by decide +kernel
theorem dL_law_416 : decode cL_law 416 = .ok (.iload_n 3, 1) := by decide +kernel
theorem dL_law_417 : decode cL_law 417 = .ok (.iconst 2, 1) := by decide +kernel
theorem dL_law_418 : decode cL_law 418 = .ok (.iadd, 1) := by decide +kernel
theorem dL_law_419 : decode cL_law 419 = .ok (.iaload, 1) := by decide +kernel
theorem dL_law_420 : decode cL_law 420 = .ok (.aload_n 0, 1) := by decide +kernel
theorem dL_law_421 : decode cL_law 421 = .ok (.iload_n 3, 1) := by decide +kernel
theorem dL_law_422 : decode cL_law 422 = .ok (.iconst 3, 1) := by decide +kernel
theorem dL_law_423 : decode cL_law 423 = .ok (.iadd, 1) := by decide +kernel
theorem dL_law_424 : decode cL_law 424 = .ok (.iaload, 1) := by decide +kernel
theorem dL_law_425 : decode cL_law 425 = .ok (.aload_n 0, 1) := by decide +kernel
theorem dL_law_426 : decode cL_law 426 = .ok (.iload_n 3, 1) := by decide +kernel
theorem dL_law_427 : decode cL_law 427 = .ok (.iconst 4, 1) := by decide +kernel
theorem dL_law_428 : decode cL_law 428 = .ok (.iadd, 1) := by decide +kernel
theorem dL_law_429 : decode cL_law 429 = .ok (.iaload, 1) := by decide +kernel
theorem dL_law_430 : decode cL_law 430 = .ok (.invokevirtual 48, 3) := by decide +kernel
theorem dL_law_433 : decode cL_law 433 = .ok (.if_icmp .eq 644, 3) := by decide +kernel
theorem dL_law_436 : decode cL_law 436 = .ok (.iconst 0, 1) := by decide +kernel
theorem dL_law_437 : decode cL_law 437 = .ok (.ireturn, 1) := by decide +kernel
theorem dL_law_438 : decode cL_law 438 = .ok (.aload_n 1, 1) := by decide +kernel
theorem dL_law_439 : decode cL_law 439 = .ok (.aload_n 0, 1) := by decide +kernel
theorem dL_law_440 : decode cL_law 440 = .ok (.iload_n 3, 1) := by decide +kernel
theorem dL_law_441 : decode cL_law 441 = .ok (.iconst 1, 1) := by decide +kernel
theorem dL_law_442 : decode cL_law 442 = .ok (.iadd, 1) := by decide +kernel
theorem dL_law_443 : decode cL_law 443 = .ok (.iaload, 1) := by decide +kernel
theorem dL_law_444 : decode cL_law 444 = .ok (.aload_n 0, 1) := by decide +kernel
theorem dL_law_445 : decode cL_law 445 = .ok (.iload_n 3, 1) := by decide +kernel
theorem dL_law_446 : decode cL_law 446 = .ok (.iconst 2, 1) := by decide +kernel
theorem dL_law_447 : decode cL_law 447 = .ok (.iadd, 1) := by decide +kernel
theorem dL_law_448 : decode cL_law 448 = .ok (.iaload, 1) := by decide +kernel
theorem dL_law_449 : decode cL_law 449 = .ok (.aload_n 0, 1) := by decide +kernel
theorem dL_law_450 : decode cL_law 450 = .ok (.iload_n 3, 1) := by decide +kernel
theorem dL_law_451 : decode cL_law 451 = .ok (.iconst 3, 1) := by decide +kernel
theorem dL_law_452 : decode cL_law 452 = .ok (.iadd, 1) := by decide +kernel
theorem dL_law_453 : decode cL_law 453 = .ok (.iaload, 1) := by decide +kernel
theorem dL_law_454 : decode cL_law 454 = .ok (.aload_n 0, 1) := by decide +kernel
theorem dL_law_455 : decode cL_law 455 = .ok (.iload_n 3, 1) := by decide +kernel
theorem dL_law_456 : decode cL_law 456 = .ok (.iconst 4, 1) := by decide +kernel
theorem dL_law_457 : decode cL_law 457 = .ok (.iadd, 1) := by decide +kernel
theorem dL_law_458 : decode cL_law 458 = .ok (.iaload, 1) := by decide +kernel
theorem dL_law_459 : decode cL_law 459 = .ok (.invokevirtual 49, 3) := by decide +kernel
theorem dL_law_462 : decode cL_law 462 = .ok (.aload_n 2, 1) := by decide +kernel
theorem dL_law_463 : decode cL_law 463 = .ok (.aload_n 0, 1) := by decide +kernel
theorem dL_law_464 : decode cL_law 464 = .ok (.iload_n 3, 1) := by decide +kernel
theorem dL_law_465 : decode cL_law 465 = .ok (.iconst 1, 1) := by decide +kernel
theorem dL_law_466 : decode cL_law 466 = .ok (.iadd, 1) := by decide +kernel
theorem dL_law_467 : decode cL_law 467 = .ok (.iaload, 1) := by decide +kernel
theorem dL_law_468 : decode cL_law 468 = .ok (.aload_n 0, 1) := by decide +kernel
theorem dL_law_469 : decode cL_law 469 = .ok (.iload_n 3, 1) := by decide +kernel
theorem dL_law_470 : decode cL_law 470 = .ok (.iconst 2, 1) := by decide +kernel
theorem dL_law_471 : decode cL_law 471 = .ok (.iadd, 1) := by decide +kernel
theorem dL_law_472 : decode cL_law 472 = .ok (.iaload, 1) := by decide +kernel
theorem dL_law_473 : decode cL_law 473 = .ok (.aload_n 0, 1) := by decide +kernel
theorem dL_law_474 : decode cL_law 474 = .ok (.iload_n 3, 1) := by decide +kernel
end
section
theorem dL_law_475 : decode cL_law 475 = .ok (.iconst 3, 1) := by decide +kernel
theorem dL_law_476 : decode cL_law 476 = .ok (.iadd, 1) := by decide +kernel
theorem dL_law_477 : decode cL_law 477 = .ok (.iaload, 1) := by decide +kernel
theorem dL_law_478 : decode cL_law 478 = .ok (.aload_n 0, 1) := by decide +kernel
theorem dL_law_479 : decode cL_law 479 = .ok (.iload_n 3, 1) := by decide +kernel
theorem dL_law_480 : decode cL_law 480 = .ok (.iconst 4, 1) := by decide +kernel
theorem dL_law_481 : decode cL_law 481 = .ok (.iadd, 1) := by decide +kernel
theorem dL_law_482 : decode cL_law 482 = .ok (.iaload, 1) := by decide +kernel
theorem dL_law_483 : decode cL_law 483 = .ok (.invokevirtual 52, 3) := by decide +kernel
theorem dL_law_486 : decode cL_law 486 = .ok (.if_icmp .eq 591, 3) := by decide +kernel
theorem dL_law_489 : decode cL_law 489 = .ok (.iconst 0, 1) := by decide +kernel
theorem dL_law_490 : decode cL_law 490 = .ok (.ireturn, 1) := by decide +kernel
theorem dL_law_491 : decode cL_law 491 = .ok (.aload_n 1, 1) := by decide +kernel
theorem dL_law_492 : decode cL_law 492 = .ok (.aload_n 0, 1) := by decide +kernel
theorem dL_law_493 : decode cL_law 493 = .ok (.iload_n 3, 1) := by decide +kernel
theorem dL_law_494 : decode cL_law 494 = .ok (.iconst 1, 1) := by decide +kernel
theorem dL_law_495 : decode cL_law 495 = .ok (.iadd, 1) := by decide +kernel
theorem dL_law_496 : decode cL_law 496 = .ok (.iaload, 1) := by decide +kernel
theorem dL_law_497 : decode cL_law 497 = .ok (.invokevirtual 53, 3) := by decide +kernel
theorem dL_law_500 : decode cL_law 500 = .ok (.aload_n 2, 1) := by decide +kernel
theorem dL_law_501 : decode cL_law 501 = .ok (.aload_n 0, 1) := by decide +kernel
theorem dL_law_502 : decode cL_law 502 = .ok (.iload_n 3, 1) := by decide +kernel
theorem dL_law_503 : decode cL_law 503 = .ok (.iconst 1, 1) := by decide +kernel
theorem dL_law_504 : decode cL_law 504 = .ok (.iadd, 1) := by decide +kernel
theorem dL_law_505 : decode cL_law 505 = .ok (.iaload, 1) := by decide +kernel
theorem dL_law_506 : decode cL_law 506 = .ok (.invokevirtual 56, 3) := by decide +kernel
theorem dL_law_509 : decode cL_law 509 = .ok (.if_icmp .eq 568, 3) := by decide +kernel
theorem dL_law_512 : decode cL_law 512 = .ok (.iconst 0, 1) := by decide +kernel
theorem dL_law_513 : decode cL_law 513 = .ok (.ireturn, 1) := by decide +kernel
theorem dL_law_514 : decode cL_law 514 = .ok (.aload_n 1, 1) := by decide +kernel
theorem dL_law_515 : decode cL_law 515 = .ok (.aload_n 0, 1) := by decide +kernel
theorem dL_law_516 : decode cL_law 516 = .ok (.iload_n 3, 1) := by decide +kernel
theorem dL_law_517 : decode cL_law 517 = .ok (.iconst 1, 1) := by decide +kernel
theorem dL_law_518 : decode cL_law 518 = .ok (.iadd, 1) := by decide +kernel
theorem dL_law_519 : decode cL_law 519 = .ok (.iaload, 1) := by decide +kernel
theorem dL_law_520 : decode cL_law 520 = .ok (.aload_n 0, 1) := by decide +kernel
theorem dL_law_521 : decode cL_law 521 = .ok (.iload_n 3, 1) := by decide +kernel
theorem dL_law_522 : decode cL_law 522 = .ok (.iconst 2, 1) := by decide +kernel
theorem dL_law_523 : decode cL_law 523 = .ok (.iadd, 1) := by decide +kernel
theorem dL_law_524 : decode cL_law 524 = .ok (.iaload, 1) := by decide +kernel
theorem dL_law_525 : decode cL_law 525 = .ok (.invokevirtual 57, 3) := by decide +kernel
theorem dL_law_528 : decode cL_law 528 = .ok (.aload_n 2, 1) := by decide +kernel
theorem dL_law_529 : decode cL_law 529 = .ok (.aload_n 0, 1) := by decide +kernel
theorem dL_law_530 : decode cL_law 530 = .ok (.iload_n 3, 1) := by decide +kernel
theorem dL_law_531 : decode cL_law 531 = .ok (.iconst 1, 1) := by decide +kernel
theorem dL_law_532 : decode cL_law 532 = .ok (.iadd, 1) := by decide +kernel
theorem dL_law_533 : decode cL_law 533 = .ok (.iaload, 1) := by decide +kernel
theorem dL_law_534 : decode cL_law 534 = .ok (.aload_n 0, 1) := by decide +kernel
theorem dL_law_535 : decode cL_law 535 = .ok (.iload_n 3, 1) := by decide +kernel
theorem dL_law_536 : decode cL_law 536 = .ok (.iconst 2, 1) := by decide +kernel
theorem dL_law_537 : decode cL_law 537 = .ok (.iadd, 1) := by decide +kernel
theorem dL_law_538 : decode cL_law 538 = .ok (.iaload, 1) := by decide +kernel
theorem dL_law_539 : decode cL_law 539 = .ok (.invokevirtual 60, 3) := by decide +kernel
theorem dL_law_542 : decode cL_law 542 = .ok (.if_icmp .eq 535, 3) := by decide +kernel
theorem dL_law_545 : decode cL_law 545 = .ok (.iconst 0, 1) := by decide +kernel
theorem dL_law_546 : decode cL_law 546 = .ok (.ireturn, 1) := by decide +kernel
theorem dL_law_547 : decode cL_law 547 = .ok (.aload_n 1, 1) := by decide +kernel
theorem dL_law_548 : decode cL_law 548 = .ok (.invokevirtual 61, 3) := by decide +kernel
theorem dL_law_551 : decode cL_law 551 = .ok (.aload_n 2, 1) := by decide +kernel
theorem dL_law_552 : decode cL_law 552 = .ok (.invokevirtual 64, 3) := by decide +kernel
theorem dL_law_555 : decode cL_law 555 = .ok (.if_icmp .eq 522, 3) := by decide +kernel
theorem dL_law_558 : decode cL_law 558 = .ok (.iconst 0, 1) := by decide +kernel
theorem dL_law_559 : decode cL_law 559 = .ok (.ireturn, 1) := by decide +kernel
theorem dL_law_560 : decode cL_law 560 = .ok (.aload_n 1, 1) := by decide +kernel
theorem dL_law_561 : decode cL_law 561 = .ok (.aload_n 0, 1) := by decide +kernel
theorem dL_law_562 : decode cL_law 562 = .ok (.iload_n 3, 1) := by decide +kernel
theorem dL_law_563 : decode cL_law 563 = .ok (.iconst 1, 1) := by decide +kernel
theorem dL_law_564 : decode cL_law 564 = .ok (.iadd, 1) := by decide +kernel
theorem dL_law_565 : decode cL_law 565 = .ok (.iaload, 1) := by decide +kernel
theorem dL_law_566 : decode cL_law 566 = .ok (.aload_n 0, 1) := by decide +kernel
theorem dL_law_567 : decode cL_law 567 = .ok (.iload_n 3, 1) := by decide +kernel
theorem dL_law_568 : decode cL_law 568 = .ok (.iconst 2, 1) := by decide +kernel
theorem dL_law_569 : decode cL_law 569 = .ok (.iadd, 1) := by decide +kernel
theorem dL_law_570 : decode cL_law 570 = .ok (.iaload, 1) := by decide +kernel
theorem dL_law_571 : decode cL_law 571 = .ok (.aload_n 0, 1) := by decide +kernel
theorem dL_law_572 : decode cL_law 572 = .ok (.iload_n 3, 1) := by decide +kernel
theorem dL_law_573 : decode cL_law 573 = .ok (.iconst 3, 1) := by decide +kernel
theorem dL_law_574 : decode cL_law 574 = .ok (.iadd, 1) := by decide +kernel
theorem dL_law_575 : decode cL_law 575 = .ok (.iaload, 1) := by decide +kernel
theorem dL_law_576 : decode cL_law 576 = .ok (.invokevirtual 65, 3) := by decide +kernel
theorem dL_law_579 : decode cL_law 579 = .ok (.aload_n 2, 1) := by decide +kernel
theorem dL_law_580 : decode cL_law 580 = .ok (.aload_n 0, 1) := by decide +kernel
theorem dL_law_581 : decode cL_law 581 = .ok (.iload_n 3, 1) := by decide +kernel
theorem dL_law_582 : decode cL_law 582 = .ok (.iconst 1, 1) := by decide +kernel
theorem dL_law_583 : decode cL_law 583 = .ok (.iadd, 1) := by decide +kernel
theorem dL_law_584 : decode cL_law 584 = .ok (.iaload, 1) := by decide +kernel
theorem dL_law_585 : decode cL_law 585 = .ok (.aload_n 0, 1) := by decide +kernel
theorem dL_law_586 : decode cL_law 586 = .ok (.iload_n 3, 1) := by decide +kernel
theorem dL_law_587 : decode cL_law 587 = .ok (.iconst 2, 1) := by decide +kernel
theorem dL_law_588 : decode cL_law 588 = .ok (.iadd, 1) := by decide +kernel
theorem dL_law_589 : decode cL_law 589 = .ok (.iaload, 1) := by decide +kernel
theorem dL_law_590 : decode cL_law 590 = .ok (.aload_n 0, 1) := by decide +kernel
theorem dL_law_591 : decode cL_law 591 = .ok (.iload_n 3, 1) := by decide +kernel
theorem dL_law_592 : decode cL_law 592 = .ok (.iconst 3, 1) := by decide +kernel
theorem dL_law_593 : decode cL_law 593 = .ok (.iadd, 1) := by decide +kernel
theorem dL_law_594 : decode cL_law 594 = .ok (.iaload, 1) := by decide +kernel
theorem dL_law_595 : decode cL_law 595 = .ok (.invokevirtual 69, 3) := by decide +kernel
theorem dL_law_598 : decode cL_law 598 = .ok (.if_icmp .eq 479, 3) := by decide +kernel
theorem dL_law_601 : decode cL_law 601 = .ok (.iconst 0, 1) := by decide +kernel
theorem dL_law_602 : decode cL_law 602 = .ok (.ireturn, 1) := by decide +kernel
theorem dL_law_603 : decode cL_law 603 = .ok (.aload_n 1, 1) := by decide +kernel
theorem dL_law_604 : decode cL_law 604 = .ok (.aload_n 0, 1) := by decide +kernel
theorem dL_law_605 : decode cL_law 605 = .ok (.iload_n 3, 1) := by decide +kernel
theorem dL_law_606 : decode cL_law 606 = .ok (.iconst 1, 1) := by decide +kernel
theorem dL_law_607 : decode cL_law 607 = .ok (.iadd, 1) := by decide +kernel
theorem dL_law_608 : decode cL_law 608 = .ok (.iaload, 1) := by decide +kernel
theorem dL_law_609 : decode cL_law 609 = .ok (.aload_n 0, 1) := by decide +kernel
theorem dL_law_610 : decode cL_law 610 = .ok (.iload_n 3, 1) := by decide +kernel
theorem dL_law_611 : decode cL_law 611 = .ok (.iconst 2, 1) := by decide +kernel
theorem dL_law_612 : decode cL_law 612 = .ok (.iadd, 1) := by decide +kernel
theorem dL_law_613 : decode cL_law 613 = .ok (.iaload, 1) := by decide +kernel
theorem dL_law_614 : decode cL_law 614 = .ok (.invokevirtual 70, 3) := by decide +kernel
theorem dL_law_617 : decode cL_law 617 = .ok (.aload_n 2, 1) := by decide +kernel
theorem dL_law_618 : decode cL_law 618 = .ok (.aload_n 0, 1) := by decide +kernel
theorem dL_law_619 : decode cL_law 619 = .ok (.iload_n 3, 1) := by decide +kernel
theorem dL_law_620 : decode cL_law 620 = .ok (.iconst 1, 1) := by decide +kernel
theorem dL_law_621 : decode cL_law 621 = .ok (.iadd, 1) := by decide +kernel
theorem dL_law_622 : decode cL_law 622 = .ok (.iaload, 1) := by decide +kernel
theorem dL_law_623 : decode cL_law 623 = .ok (.aload_n 0, 1) := by decide +kernel
theorem dL_law_624 : decode cL_law 624 = .ok (.iload_n 3, 1) := by decide +kernel
theorem dL_law_625 : decode cL_law 625 = .ok (.iconst 2, 1) := by decide +kernel
theorem dL_law_626 : decode cL_law 626 = .ok (.iadd, 1) := by decide +kernel
theorem dL_law_627 : decode cL_law 627 = .ok (.iaload, 1) := by decide +kernel
theorem dL_law_628 : decode cL_law 628 = .ok (.invokevirtual 73, 3) := by decide +kernel
theorem dL_law_631 : decode cL_law 631 = .ok (.if_icmp .eq 446, 3) := by decide +kernel
theorem dL_law_634 : decode cL_law 634 = .ok (.iconst 0, 1) := by decide +kernel
theorem dL_law_635 : decode cL_law 635 = .ok (.ireturn, 1) := by decide +kernel
theorem dL_law_636 : decode cL_law 636 = .ok (.aload_n 1, 1) := by decide +kernel
theorem dL_law_637 : decode cL_law 637 = .ok (.aload_n 0, 1) := by decide +kernel
theorem dL_law_638 : decode cL_law 638 = .ok (.iload_n 3, 1) := by decide +kernel
theorem dL_law_639 : decode cL_law 639 = .ok (.iconst 1, 1) := by decide +kernel
theorem dL_law_640 : decode cL_law 640 = .ok (.iadd, 1) := by decide +kernel
theorem dL_law_641 : decode cL_law 641 = .ok (.iaload, 1) := by decide +kernel
theorem dL_law_642 : decode cL_law 642 = .ok (.invokevirtual 74, 3) := by decide +kernel
theorem dL_law_645 : decode cL_law 645 = .ok (.aload_n 2, 1) := by decide +kernel
theorem dL_law_646 : decode cL_law 646 = .ok (.aload_n 0, 1) := by decide +kernel
theorem dL_law_647 : decode cL_law 647 = .ok (.iload_n 3, 1) := by decide +kernel
theorem dL_law_648 : decode cL_law 648 = .ok (.iconst 1, 1) := by decide +kernel
theorem dL_law_649 : decode cL_law 649 = .ok (.iadd, 1) := by decide +kernel
theorem dL_law_650 : decode cL_law 650 = .ok (.iaload, 1) := by decide +kernel
theorem dL_law_651 : decode cL_law 651 = .ok (.invokevirtual 77, 3) := by decide +kernel
theorem dL_law_654 : decode cL_law 654 = .ok (.if_icmp .eq 423, 3) := by decide +kernel
theorem dL_law_657 : decode cL_law 657 = .ok (.iconst 0, 1) := by decide +kernel
theorem dL_law_658 : decode cL_law 658 = .ok (.ireturn, 1) := by decide +kernel
theorem dL_law_659 : decode cL_law 659 = .ok (.aload_n 1, 1) := by decide +kernel
theorem dL_law_660 : decode cL_law 660 = .ok (.aload_n 0, 1) := by decide +kernel
theorem dL_law_661 : decode cL_law 661 = .ok (.iload_n 3, 1) := by decide +kernel
theorem dL_law_662 : decode cL_law 662 = .ok (.iconst 1, 1) := by decide +kernel
theorem dL_law_663 : decode cL_law 663 = .ok (.iadd, 1) := by decide +kernel
theorem dL_law_664 : decode cL_law 664 = .ok (.iaload, 1) := by decide +kernel
theorem dL_law_665 : decode cL_law 665 = .ok (.invokevirtual 78, 3) := by decide +kernel
theorem dL_law_668 : decode cL_law 668 = .ok (.aload_n 2, 1) := by decide +kernel
theorem dL_law_669 : decode cL_law 669 = .ok (.aload_n 0, 1) := by decide +kernel
theorem dL_law_670 : decode cL_law 670 = .ok (.iload_n 3, 1) := by decide +kernel
theorem dL_law_671 : decode cL_law 671 = .ok (.iconst 1, 1) := by decide +kernel
theorem dL_law_672 : decode cL_law 672 = .ok (.iadd, 1) := by decide +kernel
theorem dL_law_673 : decode cL_law 673 = .ok (.iaload, 1) := by decide +kernel
theorem dL_law_674 : decode cL_law 674 = .ok (.invokevirtual 81, 3) := by decide +kernel
theorem dL_law_677 : decode cL_law 677 = .ok (.if_icmp .eq 400, 3) := by decide +kernel
theorem dL_law_680 : decode cL_law 680 = .ok (.iconst 0, 1) := by decide +kernel
theorem dL_law_681 : decode cL_law 681 = .ok (.ireturn, 1) := by decide +kernel
theorem dL_law_682 : decode cL_law 682 = .ok (.aload_n 1, 1) := by decide +kernel
theorem dL_law_683 : decode cL_law 683 = .ok (.aload_n 0, 1) := by decide +kernel
theorem dL_law_684 : decode cL_law 684 = .ok (.iload_n 3, 1) := by decide +kernel
theorem dL_law_685 : decode cL_law 685 = .ok (.iconst 1, 1) := by decide +kernel
theorem dL_law_686 : decode cL_law 686 = .ok (.iadd, 1) := by decide +kernel
theorem dL_law_687 : decode cL_law 687 = .ok (.iaload, 1) := by decide +kernel
theorem dL_law_688 : decode cL_law 688 = .ok (.aload_n 0, 1) := by decide +kernel
theorem dL_law_689 : decode cL_law 689 = .ok (.iload_n 3, 1) := by decide +kernel
theorem dL_law_690 : decode cL_law 690 = .ok (.iconst 2, 1) := by decide +kernel
theorem dL_law_691 : decode cL_law 691 = .ok (.iadd, 1) := by decide +kernel
theorem dL_law_692 : decode cL_law 692 = .ok (.iaload, 1) := by decide +kernel
theorem dL_law_693 : decode cL_law 693 = .ok (.invokevirtual 82, 3) := by decide +kernel
theorem dL_law_696 : decode cL_law 696 = .ok (.aload_n 2, 1) := by decide +kernel
theorem dL_law_697 : decode cL_law 697 = .ok (.aload_n 0, 1) := by decide +kernel
theorem dL_law_698 : decode cL_law 698 = .ok (.iload_n 3, 1) := by decide +kernel
theorem dL_law_699 : decode cL_law 699 = .ok (.iconst 1, 1) := by decide +kernel
theorem dL_law_700 : decode cL_law 700 = .ok (.iadd, 1) := by decide +kernel
theorem dL_law_701 : decode cL_law 701 = .ok (.iaload, 1) := by decide +kernel
theorem dL_law_702 : decode cL_law 702 = .ok (.aload_n 0, 1) := by decide +kernel
theorem dL_law_703 : decode cL_law 703 = .ok (.iload_n 3, 1) := by decide +kernel
theorem dL_law_704 : decode cL_law 704 = .ok (.iconst 2, 1) := by decide +kernel
theorem dL_law_705 : decode cL_law 705 = .ok (.iadd, 1) := by decide +kernel
theorem dL_law_706 : decode cL_law 706 = .ok (.iaload, 1) := by decide +kernel
theorem dL_law_707 : decode cL_law 707 = .ok (.invokevirtual 85, 3) := by decide +kernel
theorem dL_law_710 : decode cL_law 710 = .ok (.if_icmp .eq 367, 3) := by decide +kernel
theorem dL_law_713 : decode cL_law 713 = .ok (.iconst 0, 1) := by decide +kernel
theorem dL_law_714 : decode cL_law 714 = .ok (.ireturn, 1) := by decide +kernel
theorem dL_law_715 : decode cL_law 715 = .ok (.aload_n 1, 1) := by decide +kernel
theorem dL_law_716 : decode cL_law 716 = .ok (.aload_n 0, 1) := by decide +kernel
theorem dL_law_717 : decode cL_law 717 = .ok (.iload_n 3, 1) := by decide +kernel
theorem dL_law_718 : decode cL_law 718 = .ok (.iconst 1, 1) := by decide +kernel
theorem dL_law_719 : decode cL_law 719 = .ok (.iadd, 1) := by decide +kernel
theorem dL_law_720 : decode cL_law 720 = .ok (.iaload, 1) := by decide +kernel
theorem dL_law_721 : decode cL_law 721 = .ok (.aload_n 0, 1) := by decide +kernel
theorem dL_law_722 : decode cL_law 722 = .ok (.iload_n 3, 1) := by decide +kernel
theorem dL_law_723 : decode cL_law 723 = .ok (.iconst 2, 1) := by decide +kernel
theorem dL_law_724 : decode cL_law 724 = .ok (.iadd, 1) := by decide +kernel
theorem dL_law_725 : decode cL_law 725 = .ok (.iaload, 1) := by decide +kernel
theorem dL_law_726 : decode cL_law 726 = .ok (.aload_n 0, 1) := by decide +kernel
theorem dL_law_727 : decode cL_law 727 = .ok (.iload_n 3, 1) := by decide +kernel
theorem dL_law_728 : decode cL_law 728 = .ok (.iconst 3, 1) := by decide +kernel
theorem dL_law_729 : decode cL_law 729 = .ok (.iadd, 1) := by decide +kernel
theorem dL_law_730 : decode cL_law 730 = .ok (.iaload, 1) := by decide +kernel
theorem dL_law_731 : decode cL_law 731 = .ok (.invokevirtual 86, 3) := by decide +kernel
theorem dL_law_734 : decode cL_law 734 = .ok (.aload_n 2, 1) := by decide +kernel
theorem dL_law_735 : decode cL_law 735 = .ok (.aload_n 0, 1) := by decide +kernel
theorem dL_law_736 : decode cL_law 736 = .ok (.iload_n 3, 1) := by decide +kernel
theorem dL_law_737 : decode cL_law 737 = .ok (.iconst 1, 1) := by decide +kernel
theorem dL_law_738 : decode cL_law 738 = .ok (.iadd, 1) := by decide +kernel
theorem dL_law_739 : decode cL_law 739 = .ok (.iaload, 1) := by decide +kernel
theorem dL_law_740 : decode cL_law 740 = .ok (.aload_n 0, 1) := by decide +kernel
theorem dL_law_741 : decode cL_law 741 = .ok (.iload_n 3, 1) := by decide +kernel
theorem dL_law_742 : decode cL_law 742 = .ok (.iconst 2, 1) := by decide +kernel
theorem dL_law_743 : decode cL_law 743 = .ok (.iadd, 1) := by decide +kernel
theorem dL_law_744 : decode cL_law 744 = .ok (.iaload, 1) := by decide +kernel
theorem dL_law_745 : decode cL_law 745 = .ok (.aload_n 0, 1) := by decide +kernel
theorem dL_law_746 : decode cL_law 746 = .ok (.iload_n 3, 1) := by decide +kernel
theorem dL_law_747 : decode cL_law 747 = .ok (.iconst 3, 1) := by decide +kernel
theorem dL_law_748 : decode cL_law 748 = .ok (.iadd, 1) := by decide +kernel
theorem dL_law_749 : decode cL_law 749 = .ok (.iaload, 1) := by decide +kernel
theorem dL_law_750 : decode cL_law 750 = .ok (.invokevirtual 89, 3) := by decide +kernel
theorem dL_law_753 : decode cL_law 753 = .ok (.if_icmp .eq 324, 3) := by decide +kernel
theorem dL_law_756 : decode cL_law 756 = .ok (.iconst 0, 1) := by decide +kernel
theorem dL_law_757 : decode cL_law 757 = .ok (.ireturn, 1) := by decide +kernel
theorem dL_law_758 : decode cL_law 758 = .ok (.aload_n 1, 1) := by decide +kernel
theorem dL_law_759 : decode cL_law 759 = .ok (.aload_n 0, 1) := by decide +kernel
theorem dL_law_760 : decode cL_law 760 = .ok (.iload_n 3, 1) := by decide +kernel
theorem dL_law_761 : decode cL_law 761 = .ok (.iconst 1, 1) := by decide +kernel
theorem dL_law_762 : decode cL_law 762 = .ok (.iadd, 1) := by decide +kernel
theorem dL_law_763 : decode cL_law 763 = .ok (.iaload, 1) := by decide +kernel
theorem dL_law_764 : decode cL_law 764 = .ok (.aload_n 0, 1) := by decide +kernel
theorem dL_law_765 : decode cL_law 765 = .ok (.iload_n 3, 1) := by decide +kernel
theorem dL_law_766 : decode cL_law 766 = .ok (.iconst 2, 1) := by decide +kernel
theorem dL_law_767 : decode cL_law 767 = .ok (.iadd, 1) := by decide +kernel
theorem dL_law_768 : decode cL_law 768 = .ok (.iaload, 1) := by decide +kernel
theorem dL_law_769 : decode cL_law 769 = .ok (.invokevirtual 90, 3) := by decide +kernel
theorem dL_law_772 : decode cL_law 772 = .ok (.aload_n 2, 1) := by decide +kernel
theorem dL_law_773 : decode cL_law 773 = .ok (.aload_n 0, 1) := by decide +kernel
theorem dL_law_774 : decode cL_law 774 = .ok (.iload_n 3, 1) := by decide +kernel
theorem dL_law_775 : decode cL_law 775 = .ok (.iconst 1, 1) := by decide +kernel
theorem dL_law_776 : decode cL_law 776 = .ok (.iadd, 1) := by decide +kernel
theorem dL_law_777 : decode cL_law 777 = .ok (.iaload, 1) := by decide +kernel
theorem dL_law_778 : decode cL_law 778 = .ok (.aload_n 0, 1) := by decide +kernel
theorem dL_law_779 : decode cL_law 779 = .ok (.iload_n 3, 1) := by decide +kernel
theorem dL_law_780 : decode cL_law 780 = .ok (.iconst 2, 1) := by decide +kernel
theorem dL_law_781 : decode cL_law 781 = .ok (.iadd, 1) := by decide +kernel
theorem dL_law_782 : decode cL_law 782 = .ok (.iaload, 1) := by decide +kernel
theorem dL_law_783 : decode cL_law 783 = .ok (.invokevirtual 93, 3) := by decide +kernel
theorem dL_law_786 : decode cL_law 786 = .ok (.if_icmp .eq 291, 3) := by decide +kernel
theorem dL_law_789 : decode cL_law 789 = .ok (.iconst 0, 1) := by decide +kernel
theorem dL_law_790 : decode cL_law 790 = .ok (.ireturn, 1) := by decide +kernel
theorem dL_law_791 : decode cL_law 791 = .ok (.aload_n 1, 1) := by decide +kernel
theorem dL_law_792 : decode cL_law 792 = .ok (.aload_n 0, 1) := by decide +kernel
theorem dL_law_793 : decode cL_law 793 = .ok (.iload_n 3, 1) := by decide +kernel
theorem dL_law_794 : decode cL_law 794 = .ok (.iconst 1, 1) := by decide +kernel
theorem dL_law_795 : decode cL_law 795 = .ok (.iadd, 1) := by decide +kernel
theorem dL_law_796 : decode cL_law 796 = .ok (.iaload, 1) := by decide +kernel
theorem dL_law_797 : decode cL_law 797 = .ok (.aload_n 0, 1) := by decide +kernel
theorem dL_law_798 : decode cL_law 798 = .ok (.iload_n 3, 1) := by decide +kernel
theorem dL_law_799 : decode cL_law 799 = .ok (.iconst 2, 1) := by decide +kernel
theorem dL_law_800 : decode cL_law 800 = .ok (.iadd, 1) := by decide +kernel
theorem dL_law_801 : decode cL_law 801 = .ok (.iaload, 1) := by decide +kernel
theorem dL_law_802 : decode cL_law 802 = .ok (.invokevirtual 94, 3) := by decide +kernel
theorem dL_law_805 : decode cL_law 805 = .ok (.aload_n 2, 1) := by decide +kernel
theorem dL_law_806 : decode cL_law 806 = .ok (.aload_n 0, 1) := by decide +kernel
theorem dL_law_807 : decode cL_law 807 = .ok (.iload_n 3, 1) := by decide +kernel
theorem dL_law_808 : decode cL_law 808 = .ok (.iconst 1, 1) := by decide +kernel
theorem dL_law_809 : decode cL_law 809 = .ok (.iadd, 1) := by decide +kernel
theorem dL_law_810 : decode cL_law 810 = .ok (.iaload, 1) := by decide +kernel
theorem dL_law_811 : decode cL_law 811 = .ok (.aload_n 0, 1) := by decide +kernel
theorem dL_law_812 : decode cL_law 812 = .ok (.iload_n 3, 1) := by decide +kernel
theorem dL_law_813 : decode cL_law 813 = .ok (.iconst 2, 1) := by decide +kernel
theorem dL_law_814 : decode cL_law 814 = .ok (.iadd, 1) := by decide +kernel
theorem dL_law_815 : decode cL_law 815 = .ok (.iaload, 1) := by decide +kernel
theorem dL_law_816 : decode cL_law 816 = .ok (.invokevirtual 97, 3) := by decide +kernel
theorem dL_law_819 : decode cL_law 819 = .ok (.if_icmp .eq 258, 3) := by decide +kernel
theorem dL_law_822 : decode cL_law 822 = .ok (.iconst 0, 1) := by decide +kernel
theorem dL_law_823 : decode cL_law 823 = .ok (.ireturn, 1) := by decide +kernel
theorem dL_law_824 : decode cL_law 824 = .ok (.aload_n 1, 1) := by decide +kernel
theorem dL_law_825 : decode cL_law 825 = .ok (.aload_n 0, 1) := by decide +kernel
theorem dL_law_826 : decode cL_law 826 = .ok (.iload_n 3, 1) := by decide +kernel
theorem dL_law_827 : decode cL_law 827 = .ok (.iconst 1, 1) := by decide +kernel
theorem dL_law_828 : decode cL_law 828 = .ok (.iadd, 1) := by decide +kernel
theorem dL_law_829 : decode cL_law 829 = .ok (.iaload, 1) := by decide +kernel
theorem dL_law_830 : decode cL_law 830 = .ok (.invokevirtual 98, 3) := by decide +kernel
theorem dL_law_833 : decode cL_law 833 = .ok (.aload_n 2, 1) := by decide +kernel
theorem dL_law_834 : decode cL_law 834 = .ok (.aload_n 0, 1) := by decide +kernel
theorem dL_law_835 : decode cL_law 835 = .ok (.iload_n 3, 1) := by decide +kernel
theorem dL_law_836 : decode cL_law 836 = .ok (.iconst 1, 1) := by decide +kernel
theorem dL_law_837 : decode cL_law 837 = .ok (.iadd, 1) := by decide +kernel
theorem dL_law_838 : decode cL_law 838 = .ok (.iaload, 1) := by decide +kernel
theorem dL_law_839 : decode cL_law 839 = .ok (.invokevirtual 101, 3) := by decide +kernel
theorem dL_law_842 : decode cL_law 842 = .ok (.if_icmp .eq 235, 3) := by decide +kernel
theorem dL_law_845 : decode cL_law 845 = .ok (.iconst 0, 1) := by decide +kernel
theorem dL_law_846 : decode cL_law 846 = .ok (.ireturn, 1) := by decide +kernel
theorem dL_law_847 : decode cL_law 847 = .ok (.aload_n 1, 1) := by decide +kernel
theorem dL_law_848 : decode cL_law 848 = .ok (.aload_n 0, 1) := by decide +kernel
theorem dL_law_849 : decode cL_law 849 = .ok (.iload_n 3, 1) := by decide +kernel
theorem dL_law_850 : decode cL_law 850 = .ok (.iconst 1, 1) := by decide +kernel
theorem dL_law_851 : decode cL_law 851 = .ok (.iadd, 1) := by decide +kernel
theorem dL_law_852 : decode cL_law 852 = .ok (.iaload, 1) := by decide +kernel
theorem dL_law_853 : decode cL_law 853 = .ok (.invokevirtual 102, 3) := by decide +kernel
theorem dL_law_856 : decode cL_law 856 = .ok (.aload_n 2, 1) := by decide +kernel
theorem dL_law_857 : decode cL_law 857 = .ok (.aload_n 0, 1) := by decide +kernel
theorem dL_law_858 : decode cL_law 858 = .ok (.iload_n 3, 1) := by decide +kernel
theorem dL_law_859 : decode cL_law 859 = .ok (.iconst 1, 1) := by decide +kernel
theorem dL_law_860 : decode cL_law 860 = .ok (.iadd, 1) := by decide +kernel
theorem dL_law_861 : decode cL_law 861 = .ok (.iaload, 1) := by decide +kernel
theorem dL_law_862 : decode cL_law 862 = .ok (.invokevirtual 105, 3) := by decide +kernel
theorem dL_law_865 : decode cL_law 865 = .ok (.if_icmp .eq 212, 3) := by decide +kernel
theorem dL_law_868 : decode cL_law 868 = .ok (.iconst 0, 1) := by decide +kernel
theorem dL_law_869 : decode cL_law 869 = .ok (.ireturn, 1) := by decide +kernel
theorem dL_law_870 : decode cL_law 870 = .ok (.aload_n 1, 1) := by decide +kernel
theorem dL_law_871 : decode cL_law 871 = .ok (.aload_n 0, 1) := by decide +kernel
theorem dL_law_872 : decode cL_law 872 = .ok (.iload_n 3, 1) := by decide +kernel
theorem dL_law_873 : decode cL_law 873 = .ok (.iconst 1, 1) := by decide +kernel
theorem dL_law_874 : decode cL_law 874 = .ok (.iadd, 1) := by decide +kernel
theorem dL_law_875 : decode cL_law 875 = .ok (.iaload, 1) := by decide +kernel
theorem dL_law_876 : decode cL_law 876 = .ok (.aload_n 0, 1) := by decide +kernel
theorem dL_law_877 : decode cL_law 877 = .ok (.iload_n 3, 1) := by decide +kernel
theorem dL_law_878 : decode cL_law 878 = .ok (.iconst 2, 1) := by decide +kernel
theorem dL_law_879 : decode cL_law 879 = .ok (.iadd, 1) := by decide +kernel
theorem dL_law_880 : decode cL_law 880 = .ok (.iaload, 1) := by decide +kernel
theorem dL_law_881 : decode cL_law 881 = .ok (.ifCond .eq 7, 3) := by decide +kernel
theorem dL_law_884 : decode cL_law 884 = .ok (.iconst 1, 1) := by decide +kernel
theorem dL_law_885 : decode cL_law 885 = .ok (.goto 4, 3) := by decide +kernel
theorem dL_law_888 : decode cL_law 888 = .ok (.iconst 0, 1) := by decide +kernel
theorem dL_law_889 : decode cL_law 889 = .ok (.invokevirtual 106, 3) := by decide +kernel
theorem dL_law_892 : decode cL_law 892 = .ok (.aload_n 2, 1) := by decide +kernel
theorem dL_law_893 : decode cL_law 893 = .ok (.aload_n 0, 1) := by decide +kernel
theorem dL_law_894 : decode cL_law 894 = .ok (.iload_n 3, 1) := by decide +kernel
theorem dL_law_895 : decode cL_law 895 = .ok (.iconst 1, 1) := by decide +kernel
theorem dL_law_896 : decode cL_law 896 = .ok (.iadd, 1) := by decide +kernel
theorem dL_law_897 : decode cL_law 897 = .ok (.iaload, 1) := by decide +kernel
theorem dL_law_898 : decode cL_law 898 = .ok (.aload_n 0, 1) := by decide +kernel
theorem dL_law_899 : decode cL_law 899 = .ok (.iload_n 3, 1) := by decide +kernel
theorem dL_law_900 : decode cL_law 900 = .ok (.iconst 2, 1) := by decide +kernel
theorem dL_law_901 : decode cL_law 901 = .ok (.iadd, 1) := by decide +kernel
theorem dL_law_902 : decode cL_law 902 = .ok (.iaload, 1) := by decide +kernel
theorem dL_law_903 : decode cL_law 903 = .ok (.ifCond .eq 7, 3) := by decide +kernel
theorem dL_law_906 : decode cL_law 906 = .ok (.iconst 1, 1) := by decide +kernel
theorem dL_law_907 : decode cL_law 907 = .ok (.goto 4, 3) := by decide +kernel
theorem dL_law_910 : decode cL_law 910 = .ok (.iconst 0, 1) := by decide +kernel
theorem dL_law_911 : decode cL_law 911 = .ok (.invokevirtual 110, 3) := by decide +kernel
theorem dL_law_914 : decode cL_law 914 = .ok (.if_icmp .eq 163, 3) := by decide +kernel
theorem dL_law_917 : decode cL_law 917 = .ok (.iconst 0, 1) := by decide +kernel
theorem dL_law_918 : decode cL_law 918 = .ok (.ireturn, 1) := by decide +kernel
theorem dL_law_919 : decode cL_law 919 = .ok (.aload_n 1, 1) := by decide +kernel
theorem dL_law_920 : decode cL_law 920 = .ok (.aload_n 0, 1) := by decide +kernel
theorem dL_law_921 : decode cL_law 921 = .ok (.iload_n 3, 1) := by decide +kernel
theorem dL_law_922 : decode cL_law 922 = .ok (.iconst 1, 1) := by decide +kernel
theorem dL_law_923 : decode cL_law 923 = .ok (.iadd, 1) := by decide +kernel
theorem dL_law_924 : decode cL_law 924 = .ok (.iaload, 1) := by decide +kernel
theorem dL_law_925 : decode cL_law 925 = .ok (.aload_n 0, 1) := by decide +kernel
theorem dL_law_926 : decode cL_law 926 = .ok (.iload_n 3, 1) := by decide +kernel
theorem dL_law_927 : decode cL_law 927 = .ok (.iconst 2, 1) := by decide +kernel
theorem dL_law_928 : decode cL_law 928 = .ok (.iadd, 1) := by decide +kernel
theorem dL_law_929 : decode cL_law 929 = .ok (.iaload, 1) := by decide +kernel
theorem dL_law_930 : decode cL_law 930 = .ok (.invokevirtual 111, 3) := by decide +kernel
theorem dL_law_933 : decode cL_law 933 = .ok (.aload_n 2, 1) := by decide +kernel
theorem dL_law_934 : decode cL_law 934 = .ok (.aload_n 0, 1) := by decide +kernel
theorem dL_law_935 : decode cL_law 935 = .ok (.iload_n 3, 1) := by decide +kernel
theorem dL_law_936 : decode cL_law 936 = .ok (.iconst 1, 1) := by decide +kernel
theorem dL_law_937 : decode cL_law 937 = .ok (.iadd, 1) := by decide +kernel
theorem dL_law_938 : decode cL_law 938 = .ok (.iaload, 1) := by decide +kernel
theorem dL_law_939 : decode cL_law 939 = .ok (.aload_n 0, 1) := by decide +kernel
theorem dL_law_940 : decode cL_law 940 = .ok (.iload_n 3, 1) := by decide +kernel
theorem dL_law_941 : decode cL_law 941 = .ok (.iconst 2, 1) := by decide +kernel
theorem dL_law_942 : decode cL_law 942 = .ok (.iadd, 1) := by decide +kernel
theorem dL_law_943 : decode cL_law 943 = .ok (.iaload, 1) := by decide +kernel
theorem dL_law_944 : decode cL_law 944 = .ok (.invokevirtual 114, 3) := by decide +kernel
theorem dL_law_947 : decode cL_law 947 = .ok (.if_icmp .eq 130, 3) := by decide +kernel
theorem dL_law_950 : decode cL_law 950 = .ok (.iconst 0, 1) := by decide +kernel
theorem dL_law_951 : decode cL_law 951 = .ok (.ireturn, 1) := by decide +kernel
theorem dL_law_952 : decode cL_law 952 = .ok (.aload_n 1, 1) := by decide +kernel
theorem dL_law_953 : decode cL_law 953 = .ok (.aload_n 0, 1) := by decide +kernel
theorem dL_law_954 : decode cL_law 954 = .ok (.iload_n 3, 1) := by decide +kernel
theorem dL_law_955 : decode cL_law 955 = .ok (.iconst 1, 1) := by decide +kernel
theorem dL_law_956 : decode cL_law 956 = .ok (.iadd, 1) := by decide +kernel
theorem dL_law_957 : decode cL_law 957 = .ok (.iaload, 1) := by decide +kernel
theorem dL_law_958 : decode cL_law 958 = .ok (.aload_n 0, 1) := by decide +kernel
theorem dL_law_959 : decode cL_law 959 = .ok (.iload_n 3, 1) := by decide +kernel
theorem dL_law_960 : decode cL_law 960 = .ok (.iconst 2, 1) := by decide +kernel
theorem dL_law_961 : decode cL_law 961 = .ok (.iadd, 1) := by decide +kernel
theorem dL_law_962 : decode cL_law 962 = .ok (.iaload, 1) := by decide +kernel
theorem dL_law_963 : decode cL_law 963 = .ok (.invokevirtual 115, 3) := by decide +kernel
theorem dL_law_966 : decode cL_law 966 = .ok (.aload_n 2, 1) := by decide +kernel
theorem dL_law_967 : decode cL_law 967 = .ok (.aload_n 0, 1) := by decide +kernel
theorem dL_law_968 : decode cL_law 968 = .ok (.iload_n 3, 1) := by decide +kernel
theorem dL_law_969 : decode cL_law 969 = .ok (.iconst 1, 1) := by decide +kernel
theorem dL_law_970 : decode cL_law 970 = .ok (.iadd, 1) := by decide +kernel
theorem dL_law_971 : decode cL_law 971 = .ok (.iaload, 1) := by decide +kernel
theorem dL_law_972 : decode cL_law 972 = .ok (.aload_n 0, 1) := by decide +kernel
theorem dL_law_973 : decode cL_law 973 = .ok (.iload_n 3, 1) := by decide +kernel
theorem dL_law_974 : decode cL_law 974 = .ok (.iconst 2, 1) := by decide +kernel
theorem dL_law_975 : decode cL_law 975 = .ok (.iadd, 1) := by decide +kernel
theorem dL_law_976 : decode cL_law 976 = .ok (.iaload, 1) := by decide +kernel
theorem dL_law_977 : decode cL_law 977 = .ok (.invokevirtual 118, 3) := by decide +kernel
theorem dL_law_980 : decode cL_law 980 = .ok (.if_icmp .eq 97, 3) := by decide +kernel
theorem dL_law_983 : decode cL_law 983 = .ok (.iconst 0, 1) := by decide +kernel
theorem dL_law_984 : decode cL_law 984 = .ok (.ireturn, 1) := by decide +kernel
theorem dL_law_985 : decode cL_law 985 = .ok (.aload_n 1, 1) := by decide +kernel
theorem dL_law_986 : decode cL_law 986 = .ok (.aload_n 0, 1) := by decide +kernel
theorem dL_law_987 : decode cL_law 987 = .ok (.iload_n 3, 1) := by decide +kernel
theorem dL_law_988 : decode cL_law 988 = .ok (.iconst 1, 1) := by decide +kernel
theorem dL_law_989 : decode cL_law 989 = .ok (.iadd, 1) := by decide +kernel
theorem dL_law_990 : decode cL_law 990 = .ok (.iaload, 1) := by decide +kernel
theorem dL_law_991 : decode cL_law 991 = .ok (.invokevirtual 119, 3) := by decide +kernel
theorem dL_law_994 : decode cL_law 994 = .ok (.aload_n 2, 1) := by decide +kernel
theorem dL_law_995 : decode cL_law 995 = .ok (.aload_n 0, 1) := by decide +kernel
theorem dL_law_996 : decode cL_law 996 = .ok (.iload_n 3, 1) := by decide +kernel
theorem dL_law_997 : decode cL_law 997 = .ok (.iconst 1, 1) := by decide +kernel
theorem dL_law_998 : decode cL_law 998 = .ok (.iadd, 1) := by decide +kernel
theorem dL_law_999 : decode cL_law 999 = .ok (.iaload, 1) := by decide +kernel
theorem dL_law_1000 : decode cL_law 1000 = .ok (.invokevirtual 122, 3) := by decide +kernel
theorem dL_law_1003 : decode cL_law 1003 = .ok (.if_icmp .eq 74, 3) := by decide +kernel
theorem dL_law_1006 : decode cL_law 1006 = .ok (.iconst 0, 1) := by decide +kernel
theorem dL_law_1007 : decode cL_law 1007 = .ok (.ireturn, 1) := by decide +kernel
theorem dL_law_1008 : decode cL_law 1008 = .ok (.aload_n 1, 1) := by decide +kernel
theorem dL_law_1009 : decode cL_law 1009 = .ok (.invokevirtual 123, 3) := by decide +kernel
theorem dL_law_1012 : decode cL_law 1012 = .ok (.aload_n 2, 1) := by decide +kernel
theorem dL_law_1013 : decode cL_law 1013 = .ok (.invokevirtual 126, 3) := by decide +kernel
theorem dL_law_1016 : decode cL_law 1016 = .ok (.if_icmp .eq 61, 3) := by decide +kernel
theorem dL_law_1019 : decode cL_law 1019 = .ok (.iconst 0, 1) := by decide +kernel
theorem dL_law_1020 : decode cL_law 1020 = .ok (.ireturn, 1) := by decide +kernel
theorem dL_law_1021 : decode cL_law 1021 = .ok (.aload_n 1, 1) := by decide +kernel
theorem dL_law_1022 : decode cL_law 1022 = .ok (.aload_n 0, 1) := by decide +kernel
theorem dL_law_1023 : decode cL_law 1023 = .ok (.iload_n 3, 1) := by decide +kernel
theorem dL_law_1024 : decode cL_law 1024 = .ok (.iconst 1, 1) := by decide +kernel
theorem dL_law_1025 : decode cL_law 1025 = .ok (.iadd, 1) := by decide +kernel
theorem dL_law_1026 : decode cL_law 1026 = .ok (.iaload, 1) := by decide +kernel
theorem dL_law_1027 : decode cL_law 1027 = .ok (.aload_n 0, 1) := by decide +kernel
theorem dL_law_1028 : decode cL_law 1028 = .ok (.iload_n 3, 1) := by decide +kernel
theorem dL_law_1029 : decode cL_law 1029 = .ok (.iconst 2, 1) := by decide +kernel
theorem dL_law_1030 : decode cL_law 1030 = .ok (.iadd, 1) := by decide +kernel
theorem dL_law_1031 : decode cL_law 1031 = .ok (.iaload, 1) := by decide +kernel
theorem dL_law_1032 : decode cL_law 1032 = .ok (.invokevirtual 127, 3) := by decide +kernel
theorem dL_law_1035 : decode cL_law 1035 = .ok (.aload_n 2, 1) := by decide +kernel
theorem dL_law_1036 : decode cL_law 1036 = .ok (.aload_n 0, 1) := by decide +kernel
theorem dL_law_1037 : decode cL_law 1037 = .ok (.iload_n 3, 1) := by decide +kernel
theorem dL_law_1038 : decode cL_law 1038 = .ok (.iconst 1, 1) := by decide +kernel
theorem dL_law_1039 : decode cL_law 1039 = .ok (.iadd, 1) := by decide +kernel
theorem dL_law_1040 : decode cL_law 1040 = .ok (.iaload, 1) := by decide +kernel
theorem dL_law_1041 : decode cL_law 1041 = .ok (.aload_n 0, 1) := by decide +kernel
theorem dL_law_1042 : decode cL_law 1042 = .ok (.iload_n 3, 1) := by decide +kernel
theorem dL_law_1043 : decode cL_law 1043 = .ok (.iconst 2, 1) := by decide +kernel
theorem dL_law_1044 : decode cL_law 1044 = .ok (.iadd, 1) := by decide +kernel
theorem dL_law_1045 : decode cL_law 1045 = .ok (.iaload, 1) := by decide +kernel
theorem dL_law_1046 : decode cL_law 1046 = .ok (.invokevirtual 130, 3) := by decide +kernel
theorem dL_law_1049 : decode cL_law 1049 = .ok (.if_icmp .eq 28, 3) := by decide +kernel
theorem dL_law_1052 : decode cL_law 1052 = .ok (.iconst 0, 1) := by decide +kernel
theorem dL_law_1053 : decode cL_law 1053 = .ok (.ireturn, 1) := by decide +kernel
theorem dL_law_1054 : decode cL_law 1054 = .ok (.aload_n 1, 1) := by decide +kernel
theorem dL_law_1055 : decode cL_law 1055 = .ok (.aload_n 0, 1) := by decide +kernel
theorem dL_law_1056 : decode cL_law 1056 = .ok (.iload_n 3, 1) := by decide +kernel
theorem dL_law_1057 : decode cL_law 1057 = .ok (.iconst 1, 1) := by decide +kernel
theorem dL_law_1058 : decode cL_law 1058 = .ok (.iadd, 1) := by decide +kernel
theorem dL_law_1059 : decode cL_law 1059 = .ok (.iaload, 1) := by decide +kernel
theorem dL_law_1060 : decode cL_law 1060 = .ok (.invokevirtual 131, 3) := by decide +kernel
theorem dL_law_1063 : decode cL_law 1063 = .ok (.aload_n 2, 1) := by decide +kernel
theorem dL_law_1064 : decode cL_law 1064 = .ok (.aload_n 0, 1) := by decide +kernel
theorem dL_law_1065 : decode cL_law 1065 = .ok (.iload_n 3, 1) := by decide +kernel
theorem dL_law_1066 : decode cL_law 1066 = .ok (.iconst 1, 1) := by decide +kernel
theorem dL_law_1067 : decode cL_law 1067 = .ok (.iadd, 1) := by decide +kernel
theorem dL_law_1068 : decode cL_law 1068 = .ok (.iaload, 1) := by decide +kernel
theorem dL_law_1069 : decode cL_law 1069 = .ok (.invokevirtual 134, 3) := by decide +kernel
theorem dL_law_1072 : decode cL_law 1072 = .ok (.if_icmp .eq 5, 3) := by decide +kernel
theorem dL_law_1075 : decode cL_law 1075 = .ok (.iconst 0, 1) := by decide +kernel
theorem dL_law_1076 : decode cL_law 1076 = .ok (.ireturn, 1) := by decide +kernel
theorem dL_law_1077 : decode cL_law 1077 = .ok (.iinc 3 5, 3) := by decide +kernel
theorem dL_law_1080 : decode cL_law 1080 = .ok (.goto (-1062), 3) := by decide +kernel
theorem dL_law_1083 : decode cL_law 1083 = .ok (.iconst 1, 1) := by decide +kernel
theorem dL_law_1084 : decode cL_law 1084 = .ok (.ireturn, 1) := by decide +kernel
abbrev vwCl : List vw_C := [(RX0, TX0, 3), (RX1, TX1, 7), (RX2, TX2, 2), (RX3, TX3, 5), (RX4, TX4, 3), (RX5, TX5, 6), (RX6, TX6, 3), (RX7, TX7, 2), (RX8, TX8, 4), (RX9, TX9, 15), (RX10, TX10, 45)]
end
section
/-! THE STATE: cell i of an object graph holds the ints σ i 0, σ i 1 ..; what kind of cell it is stands in a list of kinds -/
abbrev St : Type := Nat → Nat → Int32
abbrev wX : Type := va_G × (Nat → Nat) × (Nat → ClassId)
def up2 (σ : St) (i j : Nat) (x : Int32) : St := fun a => if a = i then upd (σ i) j x else σ a
def tysX (X : wX) : List (ClassId × FieldType) := [(X.2.2 0, .int), (X.2.2 1, .boolean), (X.2.2 2, .object RX2), (X.2.2 3, .object RX8), (X.2.2 4, .object RX4), (X.2.2 5, .object RX1)]
/-- what cell i is, by its kind: 0 to 10 an object of that class, 100 + n ints, 200 + n booleans, 300 .. rows of references -/
def CE (X : wX) (kL : List Nat) (i : Nat) (r : Nat → Int32) : va_E :=
  if kL.getD i 999 = 0 then .inr (0, [.ref (X.2.1 65), .int (r 1), .int (r 2)])
  else if kL.getD i 999 = 1 then .inr (1, [.int (r 0), .int (r 1), .int (r 2), .int (r 3), .int (r 4), .int (r 5), .int (r 6)])
  else if kL.getD i 999 = 2 then .inr (2, [.ref (X.2.1 (i + 1)), .ref (X.2.1 (i + 2))])
  else if kL.getD i 999 = 3 then .inr (3, [.ref (X.2.1 2), .ref (X.2.1 3), .ref (X.2.1 22), .int (r 3), .int (r 4)])
  else if kL.getD i 999 = 4 then .inr (4, [.ref (X.2.1 (i + 1)), .ref (X.2.1 (i + 2)), .int (r 2)])
  else if kL.getD i 999 = 5 then .inr (5, [.ref (X.2.1 58), .ref (X.2.1 59), .ref (X.2.1 60), .ref (X.2.1 61), .ref (X.2.1 62), .ref (X.2.1 63)])
  else if kL.getD i 999 = 6 then .inr (6, [.ref (X.2.1 56), .int (r 1), .int (r 2)])
  else if kL.getD i 999 = 7 then .inr (7, [.ref (X.2.1 42), .ref (X.2.1 (r 1).toNatClampNeg)])
  else if kL.getD i 999 = 8 then .inr (8, [.int (r 0), .int (r 1), .int (r 2), .int (r 3)])
  else if kL.getD i 999 = 9 then .inr (9, [.ref (X.2.1 1), .ref (X.2.1 41), .ref (X.2.1 55), .ref (X.2.1 57), .ref (X.2.1 64), .ref (X.2.1 78), .ref (X.2.1 79), .ref (X.2.1 80), .ref (X.2.1 81), .int (r 9), .int (r 10), .int (r 11), .int (r 12), .int (r 13), .int (r 14)])
  else if kL.getD i 999 = 10 then .inr (10, [.ref (X.2.1 1), .ref (X.2.1 2), .int (r 2), .ref (X.2.1 3), .ref (X.2.1 4), .ref (X.2.1 5), .ref (X.2.1 6), .int (r 7), .ref (X.2.1 7), .ref (X.2.1 8), .ref (X.2.1 9), .int (r 11), .ref (X.2.1 10), .ref (X.2.1 11), .int (r 14), .ref (X.2.1 12), .int (r 16), .ref (X.2.1 13), .ref (X.2.1 14), .ref (X.2.1 15), .ref (X.2.1 16), .ref (X.2.1 17), .ref (X.2.1 18), .ref (X.2.1 19), .ref (X.2.1 20), .ref (X.2.1 21), .int (r 26), .int (r 27), .int (r 28), .int (r 29), .int (r 30), .int (r 31), .int (r 32), .ref (X.2.1 22), .ref (X.2.1 23), .ref (X.2.1 24), .ref (X.2.1 25), .ref (X.2.1 26), .ref (X.2.1 27), .ref (X.2.1 28), .ref (X.2.1 29), .int (r 41), .int (r 42), .ref (X.2.1 30), .ref (X.2.1 31)])
  else if kL.getD i 999 = 300 then .inl (X.2.2 2, 6, .inr (.inr (.inr (.inr (fun j => some (X.2.1 (4 + 3 * j)))))))
  else if kL.getD i 999 = 301 then .inl (X.2.2 3, 16, .inr (.inr (.inr (.inr (fun j => some (X.2.1 (25 + j)))))))
  else if kL.getD i 999 = 302 then .inl (X.2.2 4, 3, .inr (.inr (.inr (.inr (fun j => some (X.2.1 (r j).toNatClampNeg))))))
  else if kL.getD i 999 = 303 then .inl (X.2.2 5, 12, .inr (.inr (.inr (.inr (fun j => some (X.2.1 (66 + j)))))))
  else if kL.getD i 999 < 200 then .inl (X.2.2 0, kL.getD i 999 - 100, .inl r)
  else .inl (X.2.2 1, kL.getD i 999 - 200, .inl r)
def wsl (X : wX) (kL : List Nat) (σ : St) : va_W := (List.range kL.length).map (fun i => (X.2.1 i, CE X kL i (σ i)))
theorem wsl_get {X : wX} {kL : List Nat} {σ : St} {i : Nat} (h : i < kL.length) : (wsl X kL σ)[i]? = some (X.2.1 i, CE X kL i (σ i)) := by
  simp [wsl, h]
theorem wsl_set {X : wX} {kL : List Nat} {σ : St} {i j : Nat} {x : Int32} (h : i < kL.length) : (wsl X kL σ).set i (X.2.1 i, CE X kL i (upd (σ i) j x)) = wsl X kL (up2 σ i j x) := by
  apply List.ext_getElem?
  intro k
  rw [List.getElem?_set]
  by_cases hk : i = k
  · subst hk
    rw [if_pos rfl, wsl_get h]
    simp [wsl, h, up2]
  · rw [if_neg hk]
    by_cases hl : k < kL.length
    · rw [wsl_get hl, wsl_get hl]
      simp [up2, Ne.symm hk]
    · rw [List.getElem?_eq_none (by simp [wsl]; omega), List.getElem?_eq_none (by simp [wsl]; omega)]
theorem wsl_mem {X : wX} {kL : List Nat} {σ : St} {k : Nat} {q : Nat × va_E} (h : (wsl X kL σ)[k]? = some q) : k < kL.length ∧ q.1 = X.2.1 k := by
  by_cases hl : k < kL.length
  · rw [wsl_get hl] at h
    cases h
    exact ⟨hl, rfl⟩
  · rw [List.getElem?_eq_none (by simp [wsl]; omega)] at h
    cases h
theorem wsl_D {X : wX} {kL : List Nat} {σ τ : St} {A : Nat → Prop} (h : va_D A (wsl X kL σ)) : va_D A (wsl X kL τ) := by
  refine ⟨fun i j p q hi hj hpq => ?_, fun k q hk => ?_⟩
  · obtain ⟨l1, e1⟩ := wsl_mem hi
    obtain ⟨l2, e2⟩ := wsl_mem hj
    exact h.1 i j _ _ (wsl_get l1) (wsl_get l2) (by rw [← e1, ← e2]; exact hpq)
  · obtain ⟨l1, e1⟩ := wsl_mem hk
    rw [e1]
    exact h.2 k _ (wsl_get l1)
theorem kd_lt {kL : List Nat} {o k : Nat} (h : kL.getD o 999 = k) (hk : k ≠ 999) : o < kL.length := by
  by_cases hl : o < kL.length
  · exact hl
  · rw [List.getD_eq_default _ _ (by omega)] at h
    exact absurd h.symm hk
/-! the world of a method: the heap holds the state, its cells are apart, nothing else has changed -/
def gW (X : wX) (kL : List Nat) (A : Nat → Prop) (H0 : Heap) (σ : St) (H : Heap) (locs : List Loc) : Prop :=
  va_P X.1 vwCl (wsl X kL σ) H ∧ va_D A (wsl X kL σ) ∧ va_S A H0 H locs ∧ ∀ q, H0.size ≤ q → A q
def nW (s : State) : Prop := va_Nw (.methodLinkNest RX8 33 yX9_wayUp "GobRow") s ∧ va_Nw (.methodLinkNest RX2 24 yX9_wayUp "GobRow") s ∧ va_Nw (.methodLinkNest RX4 32 yX9_wayUp "GobRow") s
theorem nW.warm {s U : State} (hW : s.WarmedH U.vm) (h : nW s) : nW U := ⟨va_Nw.warmM hW h.1, va_Nw.warmM hW h.2.1, va_Nw.warmM hW h.2.2⟩
theorem nW.same {u U : State} (e : u.vm = U.vm) (h : nW u) : nW U := ⟨va_Nw.same rfl e h.1, va_Nw.same rfl e h.2.1, va_Nw.same rfl e h.2.2⟩
def kX (X : wX) (s : State) : Prop := va_K X.1 vwCl (tysX X) s ∧ nW s
theorem kX.warm {X : wX} {s U : State} (hW : s.WarmedH U.vm) (h : kX X s) : kX X U := ⟨va_K.moved hW.alike h.1, h.2.warm hW⟩
theorem kX.same {X : wX} {u U : State} (e : u.vm = U.vm) (h : kX X u) : kX X U := ⟨va_K.moved (by rw [← e]; exact Vm.Alike.refl u.vm) h.1, h.2.same e⟩
def eV (p : Program) (m : MethodId) (c : Code) (cc : ByteArray) (nL : Nat) (s : State) (args : Array Value) (Ts : List Cond) (own : String) (X : wX) : Prop :=
  CallFix p m c cc nL s args Ts own ∧ kX X s
/-! contracts: what a method begins with, and ends with -/
def pG (X : wX) (kL : List Nat) (σ : St) (sz : Nat) (U : State) : Prop := U.heap.size = sz ∧ va_P X.1 vwCl (wsl X kL σ) U.heap ∧ kX X U ∧ va_D (fun _ => True) (wsl X kL σ)
def mI (X : wX) (kL : List Nat) (l : Launch) (y : MethodName) (ws : List Cond) (rm : Room) (av : List Value) (σ : St) (Q : Int32 → St → Prop) : Prop :=
  ∀ sz : Nat, Met l y ws rm (va_Pc av (pG X kL σ sz)) (va_Qi Q (fun τ t => va_P X.1 vwCl (wsl X kL τ) t.heap) (va_A (wsl X kL σ) sz)) 0 0 (va_A (wsl X kL σ) sz)
def mL (X : wX) (kL : List Nat) (l : Launch) (y : MethodName) (ws : List Cond) (rm : Room) (av : List Value) (σ : St) (Q : Int64 → St → Prop) : Prop :=
  ∀ sz : Nat, Met l y ws rm (va_Pc av (pG X kL σ sz)) (va_Ql Q (fun τ t => va_P X.1 vwCl (wsl X kL τ) t.heap) (va_A (wsl X kL σ) sz)) 0 0 (va_A (wsl X kL σ) sz)
def mV (X : wX) (kL : List Nat) (l : Launch) (y : MethodName) (ws : List Cond) (rm : Room) (av : List Value) (σ : St) (Q : St → Prop) : Prop :=
  ∀ sz : Nat, Met l y ws rm (va_Pc av (pG X kL σ sz)) (va_Qv Q (fun τ t => va_P X.1 vwCl (wsl X kL τ) t.heap) (va_A (wsl X kL σ) sz)) 0 0 (va_A (wsl X kL σ) sz)
def mR (X : wX) (kL : List Nat) (l : Launch) (y : MethodName) (ws : List Cond) (rm : Room) (av : List Value) (σ : St) (Q : Nat → St → Prop) : Prop :=
  ∀ sz : Nat, Met l y ws rm (va_Pc av (pG X kL σ sz)) (va_Qr (fun u : Nat × St => Q u.1 u.2) (fun u a t => a = X.2.1 u.1 ∧ va_P X.1 vwCl (wsl X kL u.2) t.heap) (va_A (wsl X kL σ) sz)) 0 0 (va_A (wsl X kL σ) sz)
/-- a method's ends, as the walk has them -/
def zI (X : wX) (kL : List Nat) (below : List Frame) (args : Array Value) (s : State) (A : Nat → Prop) (Q : Int32 → St → Prop) : State → Prop := MQ below (va_Qi Q (fun τ t => va_P X.1 vwCl (wsl X kL τ) t.heap) A) args s 0 0 A
def zL (X : wX) (kL : List Nat) (below : List Frame) (args : Array Value) (s : State) (A : Nat → Prop) (Q : Int64 → St → Prop) : State → Prop := MQ below (va_Ql Q (fun τ t => va_P X.1 vwCl (wsl X kL τ) t.heap) A) args s 0 0 A
def zV (X : wX) (kL : List Nat) (below : List Frame) (args : Array Value) (s : State) (A : Nat → Prop) (Q : St → Prop) : State → Prop := MQ below (va_Qv Q (fun τ t => va_P X.1 vwCl (wsl X kL τ) t.heap) A) args s 0 0 A
def zR (X : wX) (kL : List Nat) (below : List Frame) (args : Array Value) (s : State) (A : Nat → Prop) (Q : Nat → St → Prop) : State → Prop := MQ below (va_Qr (fun u : Nat × St => Q u.1 u.2) (fun u a t => a = X.2.1 u.1 ∧ va_P X.1 vwCl (wsl X kL u.2) t.heap) A) args s 0 0 A
section HeadRows
variable {X : wX} {kL : List Nat} {l : Launch} {y : MethodName} {ws ws' : List Cond} {rm : Room} {av : List Value} {σ : St} {cc : ByteArray} {maxL : Nat} {ret : Option FieldType}
theorem head_of {Qc : Array Value → State → Outcome → State → Prop} {sz : Nat} (hy : plainName y.cls = true) (hw : ws = Cond.code y cc maxL ret :: ws') (hlen : (lg_sl av).length ≤ maxL)
    (h : ∀ (p : Program) (e : Env) (s : State) (m : MethodId) (args : Array Value) (below : List Frame) (meth : Method) (c : Code) (ls : Array Slot), eV p m c cc maxL s args ws y.cls X → meth.sig.returnType = ret → meth.locks = false → lv_has ls maxL (lv_args 0 av) → s.heap.size = sz → gW X kL (va_A (wsl X kL σ) sz) s.heap σ s.heap [] → W p l e rm s m args below meth c s.heap [] 0 0 (MQ below Qc args s 0 0 (va_A (wsl X kL σ) sz)) (F0 m 0 ls [])) :
    Met l y ws rm (va_Pc av (pG X kL σ sz)) Qc 0 0 (va_A (wsl X kL σ) sz) := by
  refine Met.ofW (cc := cc) (maxL := maxL) (ret := ret) hy hw ?_
  intro p e s m args below meth c s₁ B hml hv
  obtain ⟨rfl, hsz, hP, hK, hD0⟩ := hv
  have hl := lv_entry av (n := maxL) hlen
  rw [lg_entry_eq]
  generalize (lg_sl av ++ List.replicate (maxL - (lg_sl av).length) Slot.unset).toArray = ls at hl ⊢
  exact h p e s m _ below meth c ls ⟨⟨B.exec, B.bytes, hml, findClass_of_methodNamed B.named, atoms_spec (ws := ws) B.pre⟩, hK⟩ B.returns B.notSynchronized hl hsz ⟨hP, hD0.self, va_S.rf, fun q h => Or.inr (by rw [← hsz]; exact h)⟩
theorem mI.of {Q : Int32 → St → Prop} (hy : plainName y.cls = true) (hw : ws = Cond.code y cc maxL ret :: ws') (hlen : (lg_sl av).length ≤ maxL)
    (h : ∀ (A : Nat → Prop) (p : Program) (e : Env) (s : State) (m : MethodId) (args : Array Value) (below : List Frame) (meth : Method) (c : Code) (ls : Array Slot), eV p m c cc maxL s args ws y.cls X → meth.sig.returnType = ret → meth.locks = false → lv_has ls maxL (lv_args 0 av) → gW X kL A s.heap σ s.heap [] → W p l e rm s m args below meth c s.heap [] 0 0 (zI X kL below args s A Q) (F0 m 0 ls [])) :
    mI X kL l y ws rm av σ Q := fun _ => head_of hy hw hlen (fun p e s m args below meth c ls hE hr hlk hl _ hG => h _ p e s m args below meth c ls hE hr hlk hl hG)
theorem mL.of {Q : Int64 → St → Prop} (hy : plainName y.cls = true) (hw : ws = Cond.code y cc maxL ret :: ws') (hlen : (lg_sl av).length ≤ maxL)
    (h : ∀ (A : Nat → Prop) (p : Program) (e : Env) (s : State) (m : MethodId) (args : Array Value) (below : List Frame) (meth : Method) (c : Code) (ls : Array Slot), eV p m c cc maxL s args ws y.cls X → meth.sig.returnType = ret → meth.locks = false → lv_has ls maxL (lv_args 0 av) → gW X kL A s.heap σ s.heap [] → W p l e rm s m args below meth c s.heap [] 0 0 (zL X kL below args s A Q) (F0 m 0 ls [])) :
    mL X kL l y ws rm av σ Q := fun _ => head_of hy hw hlen (fun p e s m args below meth c ls hE hr hlk hl _ hG => h _ p e s m args below meth c ls hE hr hlk hl hG)
theorem mV.of {Q : St → Prop} (hy : plainName y.cls = true) (hw : ws = Cond.code y cc maxL ret :: ws') (hlen : (lg_sl av).length ≤ maxL)
    (h : ∀ (A : Nat → Prop) (p : Program) (e : Env) (s : State) (m : MethodId) (args : Array Value) (below : List Frame) (meth : Method) (c : Code) (ls : Array Slot), eV p m c cc maxL s args ws y.cls X → meth.sig.returnType = ret → meth.locks = false → lv_has ls maxL (lv_args 0 av) → gW X kL A s.heap σ s.heap [] → W p l e rm s m args below meth c s.heap [] 0 0 (zV X kL below args s A Q) (F0 m 0 ls [])) :
    mV X kL l y ws rm av σ Q := fun _ => head_of hy hw hlen (fun p e s m args below meth c ls hE hr hlk hl _ hG => h _ p e s m args below meth c ls hE hr hlk hl hG)
theorem mR.of {Q : Nat → St → Prop} (hy : plainName y.cls = true) (hw : ws = Cond.code y cc maxL ret :: ws') (hlen : (lg_sl av).length ≤ maxL)
    (h : ∀ (A : Nat → Prop) (p : Program) (e : Env) (s : State) (m : MethodId) (args : Array Value) (below : List Frame) (meth : Method) (c : Code) (ls : Array Slot), eV p m c cc maxL s args ws y.cls X → meth.sig.returnType = ret → meth.locks = false → lv_has ls maxL (lv_args 0 av) → gW X kL A s.heap σ s.heap [] → W p l e rm s m args below meth c s.heap [] 0 0 (zR X kL below args s A Q) (F0 m 0 ls [])) :
    mR X kL l y ws rm av σ Q := fun _ => head_of hy hw hlen (fun p e s m args below meth c ls hE hr hlk hl _ hG => h _ p e s m args below meth c ls hE hr hlk hl hG)
end HeadRows
section GRows
variable {p : Program} {l : Launch} {e : Env} {R : Room} {s : State} {m : MethodId} {args : Array Value} {below : List Frame} {meth : Method} {c : Code} {H : Heap} {locs : List Loc} {cells slots : Nat} {Q : State → Prop}
variable {cc : ByteArray} {pc nL : Nat} {ls : Array Slot} {rest : List Value} {X : wX} {kL : List Nat} {A : Nat → Prop} {H0 : Heap} {σ : St} {Ts : List Cond} {own : String}
/-! ends -/
theorem g_iret {Qm : Int32 → St → Prop} {v : Int32} (hE : eV p m c cc nL s args Ts own X) (hG : gW X kL A s.heap σ H locs) (hr : meth.sig.returnType = some .int) (hlk : meth.locks = false) (hdg : decode cc pc = .ok (.ireturn, 1)) (hw : Qm v σ) : W p l e R s m args below meth c H locs 0 0 (zI X kL below args s A Qm) (F0 m pc ls [.int v]) :=
  W.iret hE.1.1 hE.1.2.1 hr (fun t ht _ => ⟨⟨v, σ, rfl, hw, by rw [ht]; exact hG.1⟩, hG.2.2.1.F ht⟩) hG.2.2.1.2.2 hdg hlk
theorem g_zret {Qm : Int32 → St → Prop} {v : Int32} (hE : eV p m c cc nL s args Ts own X) (hG : gW X kL A s.heap σ H locs) (hr : meth.sig.returnType = some .boolean) (hlk : meth.locks = false) (hdg : decode cc pc = .ok (.ireturn, 1)) (hn : narrow .boolean (.int v) = .int v) (hw : Qm v σ) : W p l e R s m args below meth c H locs 0 0 (zI X kL below args s A Qm) (F0 m pc ls [.int v]) :=
  W.zret hE.1.1 hE.1.2.1 hr hn (fun t ht _ => ⟨⟨v, σ, rfl, hw, by rw [ht]; exact hG.1⟩, hG.2.2.1.F ht⟩) hG.2.2.1.2.2 hdg hlk
theorem g_lret {Qm : Int64 → St → Prop} {v : Int64} (hE : eV p m c cc nL s args Ts own X) (hG : gW X kL A s.heap σ H locs) (hr : meth.sig.returnType = some .long) (hlk : meth.locks = false) (hdg : decode cc pc = .ok (.lreturn, 1)) (hw : Qm v σ) : W p l e R s m args below meth c H locs 0 0 (zL X kL below args s A Qm) (F0 m pc ls [.long v]) :=
  W.lret hE.1.1 hE.1.2.1 hr (fun t ht _ => ⟨⟨v, σ, rfl, hw, by rw [ht]; exact hG.1⟩, hG.2.2.1.F ht⟩) hG.2.2.1.2.2 hdg hlk
theorem g_vret {Qm : St → Prop} (hE : eV p m c cc nL s args Ts own X) (hG : gW X kL A s.heap σ H locs) (hr : meth.sig.returnType = none) (hlk : meth.locks = false) (hdg : decode cc pc = .ok (.return_, 1)) (hw : Qm σ) : W p l e R s m args below meth c H locs 0 0 (zV X kL below args s A Qm) (F0 m pc ls []) :=
  W.vret hE.1.1 hE.1.2.1 hr (fun t ht _ => ⟨⟨σ, rfl, hw, by rw [ht]; exact hG.1⟩, hG.2.2.1.F ht⟩) hG.2.2.1.2.2 hdg hlk
theorem g_aret {Qm : Nat → St → Prop} {o : Nat} {rt : String} (hE : eV p m c cc nL s args Ts own X) (hG : gW X kL A s.heap σ H locs) (hr : meth.sig.returnType = some (.object rt)) (hlk : meth.locks = false) (hdg : decode cc pc = .ok (.areturn, 1)) (hw : Qm o σ) : W p l e R s m args below meth c H locs 0 0 (zR X kL below args s A Qm) (F0 m pc ls [.ref (X.2.1 o)]) :=
  W.aret hE.1.1 hE.1.2.1 hr (Or.inl ⟨_, rfl⟩) (Or.inr ⟨_, rfl⟩) (fun t ht _ => ⟨⟨(o, σ), X.2.1 o, rfl, hw, rfl, by rw [ht]; exact hG.1⟩, hG.2.2.1.F ht⟩) hG.2.2.1.2.2 hdg hlk
/-! fields -/
theorem g_get (hE : eV p m c cc nL s args Ts own X) (hG : gW X kL A H0 σ H locs) {ref C : String} {T : u_T} {N ci index o k : Nat} {fs : List Value} {v : Value} (hlt : o < kL.length) (hce : CE X kL o (σ o) = .inr (ci, fs)) (hc : vwCl[ci]? = some (C, T, N)) (hin : ∀ w ∈ u_ws C T N, w ∈ Ts) (hk : k < N) (hlink : Cond.fieldLink own index ref (T k).2.1 (T k).2.2.1 ∈ Ts) (hrf : (T k).1 = ref) (hv : fs[k]? = some v) (hdg : decode cc pc = .ok (.getfield index, 3))
    (kk : W p l e R s m args below meth c H locs cells slots Q (F0 m (pc + 3) ls (v :: rest))) : W p l e R s m args below meth c H locs cells slots Q (F0 m pc ls (.ref (X.2.1 o) :: rest)) := by
  refine va_get (D := X.1) (ci := ci) (v := v) (C := C) (T := T) (N := N) (ref := ref) hE.1.1 hE.1.2.1 hE.1.2.2.2.2 hin hE.1.2.2.2.1 hE.2.1 hG.1 o (by rw [wsl_get hlt, hce]) hc k hk (hE.1.2.2.2.2 _ hlink) (fun _ h => by rw [← hrf]; exact h) hv hdg kk
theorem g_put (hE : eV p m c cc nL s args Ts own X) (hG : gW X kL A H0 σ H locs) {ref C : String} {T : u_T} {N ci index o k : Nat} {fs : List Value} {x : Int32} {v : Value} {ty : FieldType} (hlt : o < kL.length) (hce : CE X kL o (σ o) = .inr (ci, fs)) (hce2 : CE X kL o (upd (σ o) k x) = .inr (ci, fs.set k v)) (hc : vwCl[ci]? = some (C, T, N)) (hin : ∀ w ∈ u_ws C T N, w ∈ Ts) (ty0 : Nat → FieldType) (hty : ∀ k, k < N → parseFieldDescriptor (T k).2.2.1 = some (ty0 k)) (hnm : ∀ a, a < N → ∀ b, b < N → a ≠ b → (T a).2.1 ≠ (T b).2.1) (hk : k < N) (hlink : Cond.fieldLink own index ref (T k).2.1 (T k).2.2.1 ∈ Ts) (hrf : (T k).1 = ref) (hfin : (T k).2.2.2 = false) (hd : parseFieldDescriptor (T k).2.2.1 = some ty) (hn : narrow ty v = v) (hfit : fits ty v = true) (hl : k < fs.length) (hdg : decode cc pc = .ok (.putfield index, 3))
    (kk : ∀ (τ : St) (H1 : Heap) (locs1 : List Loc), τ = up2 σ o k x → gW X kL A H0 τ H1 locs1 → W p l e R s m args below meth c H1 locs1 cells slots Q (F0 m (pc + 3) ls rest)) : W p l e R s m args below meth c H locs cells slots Q (F0 m pc ls (v :: .ref (X.2.1 o) :: rest)) := by
  refine va_put (D := X.1) (ci := ci) (v := v) (ty := ty) (C := C) (T := T) (N := N) (ref := ref) hE.1.1 hE.1.2.1 hE.1.2.2.2.2 hin ty0 hty hnm hE.1.2.2.2.1 hE.2.1 hG.1 hG.2.1 hG.2.2.1 o (by rw [wsl_get hlt, hce]) hc k hk (hE.1.2.2.2.2 _ hlink) (fun _ h => by rw [← hrf]; exact h) hfin hd hn hfit hl hdg (fun H1 locs1 h1 h2 h3 => ?_)
  rw [← hce2, wsl_set hlt] at h1 h2
  exact kk _ H1 locs1 rfl ⟨h1, h2, h3, hG.2.2.2⟩
/-! rows of ints and booleans -/
theorem g_iald (hE : eV p m c cc nL s args Ts own X) (hG : gW X kL A H0 σ H locs) {o n : Nat} {i : Int32} (hlt : o < kL.length) (hce : CE X kL o (σ o) = .inl (X.2.2 0, n, .inl (σ o))) (hin : vp_in i n) (hdg : decode cc pc = .ok (.iaload, 1))
    (kk : W p l e R s m args below meth c H locs cells slots Q (F0 m (pc + 1) ls (.int (σ o i.toNatClampNeg) :: rest))) : W p l e R s m args below meth c H locs cells slots Q (F0 m pc ls (.int i :: .ref (X.2.1 o) :: rest)) :=
  va_iald hE.1.1 hE.1.2.1 hE.2.1 hG.1 o 0 (by rw [wsl_get hlt, hce]) rfl hin hdg kk
theorem g_zald (hE : eV p m c cc nL s args Ts own X) (hG : gW X kL A H0 σ H locs) {o n : Nat} {i : Int32} (hlt : o < kL.length) (hce : CE X kL o (σ o) = .inl (X.2.2 1, n, .inl (σ o))) (hin : vp_in i n) (hdg : decode cc pc = .ok (.baload, 1))
    (kk : W p l e R s m args below meth c H locs cells slots Q (F0 m (pc + 1) ls (.int (σ o i.toNatClampNeg) :: rest))) : W p l e R s m args below meth c H locs cells slots Q (F0 m pc ls (.int i :: .ref (X.2.1 o) :: rest)) :=
  va_zald hE.1.1 hE.1.2.1 hE.2.1 hG.1 o 1 (by rw [wsl_get hlt, hce]) rfl hin hdg kk
theorem g_iast (hE : eV p m c cc nL s args Ts own X) (hG : gW X kL A H0 σ H locs) {o n : Nat} {i x : Int32} (hlt : o < kL.length) (hce : ∀ r, CE X kL o r = .inl (X.2.2 0, n, .inl r)) (hin : vp_in i n) (hdg : decode cc pc = .ok (.iastore, 1))
    (kk : ∀ (τ : St) (H1 : Heap) (locs1 : List Loc), τ = up2 σ o i.toNatClampNeg x → gW X kL A H0 τ H1 locs1 → W p l e R s m args below meth c H1 locs1 cells slots Q (F0 m (pc + 1) ls rest)) : W p l e R s m args below meth c H locs cells slots Q (F0 m pc ls (.int x :: .int i :: .ref (X.2.1 o) :: rest)) := by
  refine va_iast hE.1.1 hE.1.2.1 hE.2.1 hG.1 hG.2.1 hG.2.2.1 o 0 (by rw [wsl_get hlt, hce]) rfl hin hdg (fun H1 locs1 h1 h2 h3 => ?_)
  rw [← hce, wsl_set hlt] at h1 h2
  exact kk _ H1 locs1 rfl ⟨h1, h2, h3, hG.2.2.2⟩
theorem g_zast (hE : eV p m c cc nL s args Ts own X) (hG : gW X kL A H0 σ H locs) {o n : Nat} {i x : Int32} (hlt : o < kL.length) (hce : ∀ r, CE X kL o r = .inl (X.2.2 1, n, .inl r)) (hin : vp_in i n) (hdg : decode cc pc = .ok (.bastore, 1))
    (kk : ∀ (τ : St) (H1 : Heap) (locs1 : List Loc), τ = up2 σ o i.toNatClampNeg (vp_nar .boolean x) → gW X kL A H0 τ H1 locs1 → W p l e R s m args below meth c H1 locs1 cells slots Q (F0 m (pc + 1) ls rest)) : W p l e R s m args below meth c H locs cells slots Q (F0 m pc ls (.int x :: .int i :: .ref (X.2.1 o) :: rest)) := by
  refine va_zast hE.1.1 hE.1.2.1 hE.2.1 hG.1 hG.2.1 hG.2.2.1 o 1 (by rw [wsl_get hlt, hce]) rfl hin hdg (fun H1 locs1 h1 h2 h3 => ?_)
  rw [← hce, wsl_set hlt] at h1 h2
  exact kk _ H1 locs1 rfl ⟨h1, h2, h3, hG.2.2.2⟩
/-! rows of references -/
theorem g_aald (hE : eV p m c cc nL s args Ts own X) (hG : gW X kL A H0 σ H locs) {o n t0 q : Nat} {C : String} {cA : ClassId} {f : Nat → Option Nat} {i : Int32} (hlt : o < kL.length) (hce : CE X kL o (σ o) = .inl (cA, n, .inr (.inr (.inr (.inr f))))) (ht : (tysX X)[t0]? = some (cA, .object C)) (hin : vp_in i n) (hf : f i.toNatClampNeg = some (X.2.1 q)) (hdg : decode cc pc = .ok (.aaload, 1))
    (kk : W p l e R s m args below meth c H locs cells slots Q (F0 m (pc + 1) ls (.ref (X.2.1 q) :: rest))) : W p l e R s m args below meth c H locs cells slots Q (F0 m pc ls (.int i :: .ref (X.2.1 o) :: rest)) := by
  refine va_aldq hE.1.1 hE.1.2.1 hE.2.1 hG.1 o t0 (by rw [wsl_get hlt, hce]) ht hin hdg ?_
  rw [hf]
  exact kk
end GRows
end
section
section CRows
variable {p : Program} {l : Launch} {e : Env} {R : Room} {s : State} {m : MethodId} {args : Array Value} {below : List Frame} {meth : Method} {c : Code} {H : Heap} {locs : List Loc} {cells slots : Nat} {Q : State → Prop}
variable {cc : ByteArray} {pc nL : Nat} {ls : Array Slot} {rest : List Value} {X : wX} {kL : List Nat} {A : Nat → Prop} {H0 : Heap} {σ : St} {Ts : List Cond} {own : String}
variable {y : MethodName} {bytes : ByteArray} {maxL index n o ci : Nat} {ret : Option FieldType} {ws ws' : List Cond} {rm : Room} {C : String} {As st0 fs : List Value} {q : vw_C} {a : Array Value}
theorem pG_pre {av : List Value} (hE : kX X s) (hG : gW X kL A H0 σ H locs) : FrameBlind (va_Pc av (pG X kL σ H.size)) ∧ ∀ U : State, U.heap = H → s.WarmedH U.vm → va_Pc av (pG X kL σ H.size) av.toArray U :=
  ⟨fun a U g mk q => ⟨q.1, q.2.1, q.2.2.1, kX.same (u := U) rfl q.2.2.2.1, q.2.2.2.2⟩, fun U hU hW => ⟨rfl, by rw [hU], by rw [hU]; exact hG.1, hE.warm hW, hG.2.1.weaken (fun _ _ _ _ => trivial)⟩⟩
theorem gA (hG : gW X kL A H0 σ H locs) : ∀ q, va_A (wsl X kL σ) H.size q → A q := by
  intro q h
  rcases h with ⟨k, e, h⟩ | h
  · exact hG.2.1.2 k _ h
  · exact hG.2.2.2 q (Nat.le_trans hG.2.2.1.1 h)
theorem g_runV (hE : eV p m c cc nL s args Ts own X) (hG : gW X kL A H0 σ H locs) {Qc : Array Value → State → Outcome → State → Prop} {free : Addr → Prop} (hM : Met l y ws rm (va_Pc (Value.ref (X.2.1 o) :: As) (pG X kL σ H.size)) Qc 0 0 free) (hg : GoodIn Ts (wsV own index C y ws)) (hws : ws = Cond.code y bytes maxL ret :: ws') (hrc : rm.cells = 0) (hrs : rm.slots = 0) (hd : y.cls = C ∧ y.cls ≠ "java/lang/invoke/MethodHandle" ∧ y.cls ≠ "java/lang/invoke/VarHandle" ∧ (parseMethodDescriptor y.desc).map (fun d => d.parameters.length) = some n) (hR : rm.frames + 1 ≤ R.frames ∧ 8 + (maxL + 11) + rm.locals ≤ R.locals) (hlt : o < kL.length) (hce : CE X kL o (σ o) = .inr (ci, fs)) (hc : vwCl[ci]? = some q) (hq : q.1 = C) (hn : As.length = n) (hls : ls.size = nL) (hroom : (rest.map fun v => v.category).sum ≤ 8) (hdg : decode cc pc = .ok (.invokevirtual index, 3)) (hcs : cells ≤ R.cells ∧ slots ≤ R.slots) :
    va_Run p l e R s m args below meth c H locs cells slots 0 0 (F0 m pc ls (As.reverse ++ .ref (X.2.1 o) :: rest)) rest (Qc (Value.ref (X.2.1 o) :: As).toArray) free := by
  subst hq
  exact va_runV hE.1 hM (cwV n hE.1.2.2.2.2 hg hws hrc hrs hd hR) ⟨(pG_pre hE.2 hG).1, va_recv hE.2.1 hG.1 (ci := ci) (q0 := o) hc (by rw [wsl_get hlt, hce]), (pG_pre hE.2 hG).2⟩ rfl hn hls rfl (lv_room hroom) hdg hcs
theorem g_runS (hE : eV p m c cc nL s args Ts own X) (hG : gW X kL A H0 σ H locs) {Qc : Array Value → State → Outcome → State → Prop} {free : Addr → Prop} (hM : Met l y ws rm (va_Pc As (pG X kL σ H.size)) Qc 0 0 free) (hg : GoodIn Ts (va_wsS own index y ws)) (hws : ws = Cond.code y bytes maxL ret :: ws') (hrc : rm.cells = 0) (hrs : rm.slots = 0) (hd : y.cls ≠ "java/lang/invoke/MethodHandle" ∧ y.cls ≠ "java/lang/invoke/VarHandle" ∧ (parseMethodDescriptor y.desc).map (fun d => d.parameters.length) = some n) (hR : rm.frames + 1 ≤ R.frames ∧ 8 + (maxL + 11) + rm.locals ≤ R.locals) (hn : As.length = n) (hls : ls.size = nL) (hroom : (rest.map fun v => v.category).sum ≤ 8) (hdg : decode cc pc = .ok (.invokestatic index, 3)) (hcs : cells ≤ R.cells ∧ slots ≤ R.slots) :
    va_Run p l e R s m args below meth c H locs cells slots 0 0 (F0 m pc ls (As.reverse ++ rest)) rest (Qc As.toArray) free :=
  va_runS hE.1 hM (va_cwS n hE.1.2.2.2.2 hg hws hrc hrs hd hR) (pG_pre hE.2 hG) rfl hn hls rfl (lv_room hroom) hdg hcs
theorem g_runN (hE : eV p m c cc nL s args Ts own X) (hG : gW X kL A H0 σ H locs) {host : String} {Qc : Array Value → State → Outcome → State → Prop} {free : Addr → Prop} (hM : Met l y ws rm (va_Pc As (pG X kL σ H.size)) Qc 0 0 free) (hg : GoodIn Ts ws) (hws : ws = Cond.code y bytes maxL ret :: ws') (hrc : rm.cells = 0) (hrs : rm.slots = 0) (hnest : va_Nw (.methodLinkNest own index y host) s) (hini : Cond.initialized y.cls ∈ Ts) (hst : Cond.static y ∈ Ts) (hd : y.cls ≠ "java/lang/invoke/MethodHandle" ∧ y.cls ≠ "java/lang/invoke/VarHandle" ∧ (parseMethodDescriptor y.desc).map (fun d => d.parameters.length) = some n) (hR : rm.frames + 1 ≤ R.frames ∧ 8 + (maxL + 11) + rm.locals ≤ R.locals) (hn : As.length = n) (hls : ls.size = nL) (hroom : (rest.map fun v => v.category).sum ≤ 8) (hdg : decode cc pc = .ok (.invokestatic index, 3)) (hcs : cells ≤ R.cells ∧ slots ≤ R.slots) :
    va_Run p l e R s m args below meth c H locs cells slots 0 0 (F0 m pc ls (As.reverse ++ rest)) rest (Qc As.toArray) free :=
  va_runSN hE.1 hM ⟨va_cnB n hE.1.2.2.2.2 hg hws hrc hrs hnest (hE.1.2.2.2.2 _ hini) hd hR, hE.1.2.2.2.2 _ hst, trivial⟩ (pG_pre hE.2 hG) rfl hn hls rfl (lv_room hroom) hdg hcs
theorem g_calli (hG : gW X kL A H0 σ H locs) {Qp : Int32 → St → Prop} (hr : va_Run p l e R s m args below meth c H locs cells slots 0 0 (F0 m pc ls st0) rest (va_Qi Qp (fun τ t => va_P X.1 vwCl (wsl X kL τ) t.heap) (va_A (wsl X kL σ) H.size) a) (va_A (wsl X kL σ) H.size))
    (kk : ∀ (r : Int32) (τ : St) (H1 : Heap) (locs1 : List Loc), Qp r τ → gW X kL A H0 τ H1 locs1 → W p l e R s m args below meth c H1 locs1 cells slots Q (F0 m (pc + 3) ls (.int r :: rest))) : W p l e R s m args below meth c H locs cells slots Q (F0 m pc ls st0) :=
  va_calli hr hG.2.2.1 (fun q _ h => gA hG q h) (gA hG) (fun r u t H1 locs1 ht _ hw hB _ _ hS => kk r u H1 locs1 hw ⟨by rw [← ht]; exact hB, wsl_D hG.2.1, hS, hG.2.2.2⟩)
theorem g_calll (hG : gW X kL A H0 σ H locs) {Qp : Int64 → St → Prop} (hr : va_Run p l e R s m args below meth c H locs cells slots 0 0 (F0 m pc ls st0) rest (va_Ql Qp (fun τ t => va_P X.1 vwCl (wsl X kL τ) t.heap) (va_A (wsl X kL σ) H.size) a) (va_A (wsl X kL σ) H.size))
    (kk : ∀ (r : Int64) (τ : St) (H1 : Heap) (locs1 : List Loc), Qp r τ → gW X kL A H0 τ H1 locs1 → W p l e R s m args below meth c H1 locs1 cells slots Q (F0 m (pc + 3) ls (.long r :: rest))) : W p l e R s m args below meth c H locs cells slots Q (F0 m pc ls st0) :=
  va_calll hr hG.2.2.1 (fun q _ h => gA hG q h) (gA hG) (fun r u t H1 locs1 ht _ hw hB _ _ hS => kk r u H1 locs1 hw ⟨by rw [← ht]; exact hB, wsl_D hG.2.1, hS, hG.2.2.2⟩)
theorem g_callv (hG : gW X kL A H0 σ H locs) {Qp : St → Prop} (hr : va_Run p l e R s m args below meth c H locs cells slots 0 0 (F0 m pc ls st0) rest (va_Qv Qp (fun τ t => va_P X.1 vwCl (wsl X kL τ) t.heap) (va_A (wsl X kL σ) H.size) a) (va_A (wsl X kL σ) H.size))
    (kk : ∀ (τ : St) (H1 : Heap) (locs1 : List Loc), Qp τ → gW X kL A H0 τ H1 locs1 → W p l e R s m args below meth c H1 locs1 cells slots Q (F0 m (pc + 3) ls rest)) : W p l e R s m args below meth c H locs cells slots Q (F0 m pc ls st0) :=
  va_callv hr hG.2.2.1 (fun q _ h => gA hG q h) (gA hG) (fun u t H1 locs1 ht _ hw hB _ _ hS => kk u H1 locs1 hw ⟨by rw [← ht]; exact hB, wsl_D hG.2.1, hS, hG.2.2.2⟩)
theorem g_callr (hG : gW X kL A H0 σ H locs) {Qp : Nat → St → Prop} (hr : va_Run p l e R s m args below meth c H locs cells slots 0 0 (F0 m pc ls st0) rest (va_Qr (fun u : Nat × St => Qp u.1 u.2) (fun u a t => a = X.2.1 u.1 ∧ va_P X.1 vwCl (wsl X kL u.2) t.heap) (va_A (wsl X kL σ) H.size) a) (va_A (wsl X kL σ) H.size))
    (kk : ∀ (r : Nat) (τ : St) (H1 : Heap) (locs1 : List Loc), Qp r τ → gW X kL A H0 τ H1 locs1 → W p l e R s m args below meth c H1 locs1 cells slots Q (F0 m (pc + 3) ls (.ref (X.2.1 r) :: rest))) : W p l e R s m args below meth c H locs cells slots Q (F0 m pc ls st0) :=
  va_callr hr hG.2.2.1 (fun q _ h => gA hG q h) (gA hG) (fun u ra t H1 locs1 ht _ hw hB _ _ hS => by
    obtain ⟨e1, hB⟩ := hB
    subst e1
    exact kk u.1 u.2 H1 locs1 hw ⟨by rw [← ht]; exact hB, wsl_D hG.2.1, hS, hG.2.2.2⟩)
end CRows
/-! the kinds of the class's cells, and of the reference's -/
def kcL : List Nat := [9, 3, 300, 301, 2, 108, 108, 2, 108, 108, 2, 108, 108, 2, 108, 108, 2, 108, 108, 2, 108, 108, 2, 108, 108, 8, 8, 8, 8, 8, 8, 8, 8, 8, 8, 8, 8, 8, 8, 8, 8, 7, 302, 4, 106, 106, 4, 106, 106, 4, 106, 106, 4, 106, 106, 6, 106, 5, 130, 130, 230, 130, 130, 106, 0, 303, 1, 1, 1, 1, 1, 1, 1, 1, 1, 1, 1, 1, 106, 104, 104, 107]
def kmL : List Nat := [10, 148, 148, 117, 117, 117, 117, 103, 118, 118, 106, 106, 106, 106, 106, 104, 104, 130, 130, 230, 130, 130, 112, 112, 112, 112, 112, 112, 112, 107, 106, 106]
section Kinds
variable {X : wX} {kL : List Nat} {o : Nat} {r : Nat → Int32}
theorem ce_0 (h : kL.getD o 999 = 0) : CE X kL o r = .inr (0, [.ref (X.2.1 65), .int (r 1), .int (r 2)]) := by unfold CE; rw [h]; rfl
theorem ce_1 (h : kL.getD o 999 = 1) : CE X kL o r = .inr (1, [.int (r 0), .int (r 1), .int (r 2), .int (r 3), .int (r 4), .int (r 5), .int (r 6)]) := by unfold CE; rw [h]; rfl
theorem ce_2 (h : kL.getD o 999 = 2) : CE X kL o r = .inr (2, [.ref (X.2.1 (o + 1)), .ref (X.2.1 (o + 2))]) := by unfold CE; rw [h]; rfl
theorem ce_3 (h : kL.getD o 999 = 3) : CE X kL o r = .inr (3, [.ref (X.2.1 2), .ref (X.2.1 3), .ref (X.2.1 22), .int (r 3), .int (r 4)]) := by unfold CE; rw [h]; rfl
theorem ce_4 (h : kL.getD o 999 = 4) : CE X kL o r = .inr (4, [.ref (X.2.1 (o + 1)), .ref (X.2.1 (o + 2)), .int (r 2)]) := by unfold CE; rw [h]; rfl
theorem ce_5 (h : kL.getD o 999 = 5) : CE X kL o r = .inr (5, [.ref (X.2.1 58), .ref (X.2.1 59), .ref (X.2.1 60), .ref (X.2.1 61), .ref (X.2.1 62), .ref (X.2.1 63)]) := by unfold CE; rw [h]; rfl
theorem ce_6 (h : kL.getD o 999 = 6) : CE X kL o r = .inr (6, [.ref (X.2.1 56), .int (r 1), .int (r 2)]) := by unfold CE; rw [h]; rfl
theorem ce_7 (h : kL.getD o 999 = 7) : CE X kL o r = .inr (7, [.ref (X.2.1 42), .ref (X.2.1 (r 1).toNatClampNeg)]) := by unfold CE; rw [h]; rfl
theorem ce_8 (h : kL.getD o 999 = 8) : CE X kL o r = .inr (8, [.int (r 0), .int (r 1), .int (r 2), .int (r 3)]) := by unfold CE; rw [h]; rfl
theorem ce_9 (h : kL.getD o 999 = 9) : CE X kL o r = .inr (9, [.ref (X.2.1 1), .ref (X.2.1 41), .ref (X.2.1 55), .ref (X.2.1 57), .ref (X.2.1 64), .ref (X.2.1 78), .ref (X.2.1 79), .ref (X.2.1 80), .ref (X.2.1 81), .int (r 9), .int (r 10), .int (r 11), .int (r 12), .int (r 13), .int (r 14)]) := by unfold CE; rw [h]; rfl
theorem ce_10 (h : kL.getD o 999 = 10) : CE X kL o r = .inr (10, [.ref (X.2.1 1), .ref (X.2.1 2), .int (r 2), .ref (X.2.1 3), .ref (X.2.1 4), .ref (X.2.1 5), .ref (X.2.1 6), .int (r 7), .ref (X.2.1 7), .ref (X.2.1 8), .ref (X.2.1 9), .int (r 11), .ref (X.2.1 10), .ref (X.2.1 11), .int (r 14), .ref (X.2.1 12), .int (r 16), .ref (X.2.1 13), .ref (X.2.1 14), .ref (X.2.1 15), .ref (X.2.1 16), .ref (X.2.1 17), .ref (X.2.1 18), .ref (X.2.1 19), .ref (X.2.1 20), .ref (X.2.1 21), .int (r 26), .int (r 27), .int (r 28), .int (r 29), .int (r 30), .int (r 31), .int (r 32), .ref (X.2.1 22), .ref (X.2.1 23), .ref (X.2.1 24), .ref (X.2.1 25), .ref (X.2.1 26), .ref (X.2.1 27), .ref (X.2.1 28), .ref (X.2.1 29), .int (r 41), .int (r 42), .ref (X.2.1 30), .ref (X.2.1 31)]) := by unfold CE; rw [h]; rfl
theorem ce_300 (h : kL.getD o 999 = 300) : CE X kL o r = .inl (X.2.2 2, 6, .inr (.inr (.inr (.inr (fun j => some (X.2.1 (4 + 3 * j))))))) := by unfold CE; rw [h]; rfl
theorem ce_301 (h : kL.getD o 999 = 301) : CE X kL o r = .inl (X.2.2 3, 16, .inr (.inr (.inr (.inr (fun j => some (X.2.1 (25 + j))))))) := by unfold CE; rw [h]; rfl
theorem ce_302 (h : kL.getD o 999 = 302) : CE X kL o r = .inl (X.2.2 4, 3, .inr (.inr (.inr (.inr (fun j => some (X.2.1 (r j).toNatClampNeg)))))) := by unfold CE; rw [h]; rfl
theorem ce_303 (h : kL.getD o 999 = 303) : CE X kL o r = .inl (X.2.2 5, 12, .inr (.inr (.inr (.inr (fun j => some (X.2.1 (66 + j))))))) := by unfold CE; rw [h]; rfl
theorem ce_int {k : Nat} (h : kL.getD o 999 = k) (h1 : 100 ≤ k) (h2 : k < 200) : CE X kL o r = .inl (X.2.2 0, k - 100, .inl r) := by
  unfold CE
  rw [h, if_neg (by omega), if_neg (by omega), if_neg (by omega), if_neg (by omega), if_neg (by omega), if_neg (by omega), if_neg (by omega), if_neg (by omega), if_neg (by omega), if_neg (by omega), if_neg (by omega), if_neg (by omega), if_neg (by omega), if_neg (by omega), if_neg (by omega), if_pos h2]
theorem ce_230 (h : kL.getD o 999 = 230) : CE X kL o r = .inl (X.2.2 1, 30, .inl r) := by unfold CE; rw [h]; rfl
theorem ce_arms {i x : Int32} (h : kL.getD o 999 = 302) : CE X kL o (upd r i.toNatClampNeg x) = .inl (X.2.2 4, 3, .inr (.inr (.inr (.inr (va_up (fun j => some (X.2.1 (r j).toNatClampNeg)) i.toNatClampNeg (some (X.2.1 x.toNatClampNeg))))))) := by
  rw [ce_302 h]
  congr 6
  funext j
  by_cases hj : j = i.toNatClampNeg
  · simp [upd, va_up, hj]
  · simp [upd, va_up, hj]
end Kinds
theorem vp_lt {i : Int32} {n : Nat} (h : vp_in i n) : i.toNatClampNeg < n := Nat.not_le.mp fun q => h (Or.inr q)
theorem kc_dr : ∀ o, o < 82 → kcL.getD o 999 = 2 → kcL.getD (o + 1) 999 = 108 ∧ kcL.getD (o + 2) 999 = 108 := by decide +kernel
theorem kc_kn : ∀ o, o < 82 → kcL.getD o 999 = 4 → kcL.getD (o + 1) 999 = 106 ∧ kcL.getD (o + 2) 999 = 106 := by decide +kernel
theorem kc_on {o : Nat} (h : kcL.getD o 999 = 2) : kcL.getD (o + 1) 999 = 108 := (kc_dr o (kd_lt h (by decide)) h).1
theorem kc_off {o : Nat} (h : kcL.getD o 999 = 2) : kcL.getD (o + 2) 999 = 108 := (kc_dr o (kd_lt h (by decide)) h).2
theorem kc_deg {o : Nat} (h : kcL.getD o 999 = 4) : kcL.getD (o + 1) 999 = 106 := (kc_kn o (kd_lt h (by decide)) h).1
theorem kc_plc {o : Nat} (h : kcL.getD o 999 = 4) : kcL.getD (o + 2) 999 = 106 := (kc_kn o (kd_lt h (by decide)) h).2
theorem kc_rowsN : ∀ j, j < 6 → kcL.getD (4 + 3 * j) 999 = 2 := by decide +kernel
theorem kc_lawsN : ∀ j, j < 16 → kcL.getD (25 + j) 999 = 8 := by decide +kernel
theorem kc_ringN : ∀ j, j < 12 → kcL.getD (66 + j) 999 = 1 := by decide +kernel
theorem kc_rows {i : Int32} (h : vp_in i 6) : kcL.getD (4 + 3 * i.toNatClampNeg) 999 = 2 := kc_rowsN _ (vp_lt h)
theorem kc_laws {i : Int32} (h : vp_in i 16) : kcL.getD (25 + i.toNatClampNeg) 999 = 8 := kc_lawsN _ (vp_lt h)
theorem kc_ring {i : Int32} (h : vp_in i 12) : kcL.getD (66 + i.toNatClampNeg) 999 = 1 := kc_ringN _ (vp_lt h)
section ARows
variable {p : Program} {l : Launch} {e : Env} {R : Room} {s : State} {m : MethodId} {args : Array Value} {below : List Frame} {meth : Method} {c : Code} {H : Heap} {locs : List Loc} {cells slots : Nat} {Q : State → Prop}
variable {cc : ByteArray} {pc nL : Nat} {ls : Array Slot} {rest : List Value} {X : wX} {kL : List Nat} {A : Nat → Prop} {H0 : Heap} {σ : St} {Ts : List Cond} {own : String}
/-- arms[i] = a Knots -/
theorem g_arms (hE : eV p m c cc nL s args Ts own X) (hG : gW X kL A H0 σ H locs) {o : Nat} {i x : Int32} (h : kL.getD o 999 = 302) (hv : kL.getD x.toNatClampNeg 999 = 4) (hin : vp_in i 3) (hdg : decode cc pc = .ok (.aastore, 1))
    (kk : ∀ (τ : St) (H1 : Heap) (locs1 : List Loc), τ = up2 σ o i.toNatClampNeg x → gW X kL A H0 τ H1 locs1 → W p l e R s m args below meth c H1 locs1 cells slots Q (F0 m (pc + 1) ls rest)) : W p l e R s m args below meth c H locs cells slots Q (F0 m pc ls (.ref (X.2.1 x.toNatClampNeg) :: .int i :: .ref (X.2.1 o) :: rest)) := by
  have hlt := kd_lt h (by decide)
  refine va_astq hE.1.1 hE.1.2.1 hE.2.1 hG.1 hG.2.1 hG.2.2.1 o 4 x.toNatClampNeg 4 (by rw [wsl_get hlt, ce_302 h]) (r := (RX4, TX4, 3)) rfl (by rw [wsl_get (kd_lt hv (by decide)), ce_4 hv]) rfl hin hdg (fun H1 locs1 h1 h2 h3 => ?_)
  rw [← ce_arms h, wsl_set hlt] at h1 h2
  exact kk _ H1 locs1 rfl ⟨h1, h2, h3, hG.2.2.2⟩
end ARows
end
