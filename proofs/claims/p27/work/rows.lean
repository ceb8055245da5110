section
-- ===== PART A: goes FIRST, ahead of the names: the tables' words, and 'selects' of the private methods out of them =====
/-- a private method of a class that the tables say can be made, by its rows of tables_1 -/
def lw_okq (q : MethodName × Nat) : Prop := (q.1.cls ≠ "java/lang/invoke/MethodHandle" ∧ q.1.cls ≠ "java/lang/invoke/VarHandle") ∧ Cond.instantiable q.1.cls q.2 ∈ tables_1 ∧ Cond.privateMethod q.1 ∈ tables_1 ∧ Cond.instanceMethod q.1 ∈ tables_1
theorem lw_p0 : lw_okq (⟨"MoleMaps$Reader", "takesBreak", "(I)Z"⟩, 4) := ⟨⟨by decide +kernel, by decide +kernel⟩, List.mem_of_getElem? (i := 40) (by decide +kernel), List.mem_of_getElem? (i := 304) (by decide +kernel), List.mem_of_getElem? (i := 305) (by decide +kernel)⟩
theorem lw_p1 : lw_okq (⟨"MoleMaps$Reader", "takesShaft", "(I)Z"⟩, 4) := ⟨⟨by decide +kernel, by decide +kernel⟩, List.mem_of_getElem? (i := 40) (by decide +kernel), List.mem_of_getElem? (i := 308) (by decide +kernel), List.mem_of_getElem? (i := 309) (by decide +kernel)⟩
theorem lw_p2 : lw_okq (⟨"MoleMaps$Plan", "readShafts", "(LMoleMaps$Page;I)V"⟩, 7) := ⟨⟨by decide +kernel, by decide +kernel⟩, List.mem_of_getElem? (i := 72) (by decide +kernel), List.mem_of_getElem? (i := 347) (by decide +kernel), List.mem_of_getElem? (i := 348) (by decide +kernel)⟩
theorem lw_p3 : lw_okq (⟨"MoleMaps", "windChanges", "()V"⟩, 15) := ⟨⟨by decide +kernel, by decide +kernel⟩, List.mem_of_getElem? (i := 15) (by decide +kernel), List.mem_of_getElem? (i := 364) (by decide +kernel), List.mem_of_getElem? (i := 365) (by decide +kernel)⟩
theorem lw_p4 : lw_okq (⟨"MoleMaps$Air", "findNearest", "(LMoleMaps$Plan;I)V"⟩, 4) := ⟨⟨by decide +kernel, by decide +kernel⟩, List.mem_of_getElem? (i := 114) (by decide +kernel), List.mem_of_getElem? (i := 372) (by decide +kernel), List.mem_of_getElem? (i := 373) (by decide +kernel)⟩
theorem lw_p5 : lw_okq (⟨"MoleMaps$Air", "spread", "(III)I"⟩, 4) := ⟨⟨by decide +kernel, by decide +kernel⟩, List.mem_of_getElem? (i := 114) (by decide +kernel), List.mem_of_getElem? (i := 379) (by decide +kernel), List.mem_of_getElem? (i := 380) (by decide +kernel)⟩
theorem lw_p6 : lw_okq (⟨"MoleMaps$Air", "findFlows", "(LMoleMaps$Plan;I)V"⟩, 4) := ⟨⟨by decide +kernel, by decide +kernel⟩, List.mem_of_getElem? (i := 114) (by decide +kernel), List.mem_of_getElem? (i := 391) (by decide +kernel), List.mem_of_getElem? (i := 392) (by decide +kernel)⟩
theorem lw_p7 : lw_okq (⟨"MoleMaps$Air", "lower", "(II)I"⟩, 4) := ⟨⟨by decide +kernel, by decide +kernel⟩, List.mem_of_getElem? (i := 114) (by decide +kernel), List.mem_of_getElem? (i := 395) (by decide +kernel), List.mem_of_getElem? (i := 396) (by decide +kernel)⟩
theorem lw_p8 : lw_okq (⟨"MoleMaps", "dreamWalk", "()V"⟩, 15) := ⟨⟨by decide +kernel, by decide +kernel⟩, List.mem_of_getElem? (i := 15) (by decide +kernel), List.mem_of_getElem? (i := 539) (by decide +kernel), List.mem_of_getElem? (i := 540) (by decide +kernel)⟩
def lw_privs_1 : List (MethodName × Nat) := [(⟨"MoleMaps$Reader", "takesBreak", "(I)Z"⟩, 4), (⟨"MoleMaps$Reader", "takesShaft", "(I)Z"⟩, 4), (⟨"MoleMaps$Plan", "readShafts", "(LMoleMaps$Page;I)V"⟩, 7), (⟨"MoleMaps", "windChanges", "()V"⟩, 15), (⟨"MoleMaps$Air", "findNearest", "(LMoleMaps$Plan;I)V"⟩, 4), (⟨"MoleMaps$Air", "spread", "(III)I"⟩, 4), (⟨"MoleMaps$Air", "findFlows", "(LMoleMaps$Plan;I)V"⟩, 4), (⟨"MoleMaps$Air", "lower", "(II)I"⟩, 4), (⟨"MoleMaps", "dreamWalk", "()V"⟩, 15)]
theorem lw_r1 : ∀ q ∈ lw_privs_1, lw_okq q := List.forall_mem_cons.mpr ⟨lw_p0, List.forall_mem_cons.mpr ⟨lw_p1, List.forall_mem_cons.mpr ⟨lw_p2, List.forall_mem_cons.mpr ⟨lw_p3, List.forall_mem_cons.mpr ⟨lw_p4, List.forall_mem_cons.mpr ⟨lw_p5, List.forall_mem_cons.mpr ⟨lw_p6, List.forall_mem_cons.mpr ⟨lw_p7, List.forall_mem_cons.mpr ⟨lw_p8, fun _ h => absurd h List.not_mem_nil⟩⟩⟩⟩⟩⟩⟩⟩⟩
def lw_privs : List (MethodName × Nat) := lw_privs_1
def lw_tbl : List Cond := k2_sels lw_privs ++ tables_1
theorem lw_privs_ok : ∀ q ∈ lw_privs, lw_okq q := lw_r1
-- ===== end of PART A; then your names; then what follows =====
end
section
/-! ===== BEGIN words of one list among another's, by their places ===== -/
theorem goodIn_r {big : List Cond} (ws : List Cond) (ps : List Nat) (hp : ws = ps.filterMap (fun i => big[i]?)) (h : ws.all goodWord = true) : GoodIn big ws := by
  intro w hw
  have h1 := List.all_eq_true.mp h w hw
  rw [hp] at hw
  obtain ⟨i, -, hi⟩ := List.mem_filterMap.mp hw
  have hm : w ∈ big := by first | exact List.mem_of_getElem? hi | exact List.getElem?_mem hi
  exact ⟨hm, good_of_word h1⟩
theorem goodIn_app {big a b : List Cond} (ha : GoodIn big a) (hb : GoodIn big b) : GoodIn big (a ++ b) := fun w h => (List.mem_append.mp h).elim (ha w) (hb w)
theorem goodIn_ca {big a b : List Cond} {c : Cond} (ha : GoodIn big (c :: a)) (hb : GoodIn big b) : GoodIn big (c :: (a ++ b)) := fun w h => (List.mem_cons.mp h).elim (fun e => ha w (List.mem_cons.mpr (Or.inl e))) (fun h => (List.mem_append.mp h).elim (fun h => ha w (List.mem_cons.mpr (Or.inr h))) (hb w))
theorem goodIn_sub {big ws : List Cond} (hm : ∀ w ∈ ws, w ∈ big) (h : ws.all goodWord = true) : GoodIn big ws := fun w hw => ⟨hm w hw, good_of_word (List.all_eq_true.mp h w hw)⟩
/-! ===== END ===== -/

/-! ===== BEGIN printed: names, fields, word lists, decode rows ===== -/
def RX0 : String := "MoleMaps$Air"
def TX0 : u_T := fun k => match k with
  | 0 => ("MoleMaps$Air", "height", "LMoleMaps$Row;", true)
  | 1 => ("MoleMaps$Air", "into", "LMoleMaps$Row;", true)
  | 2 => ("MoleMaps$Air", "breathing", "I", false)
  | _ => ("MoleMaps$Air", "nearest", "LMoleMaps$Row;", true)
def tyX0 : Nat → FieldType := fun k => match k with
  | 0 => .object "MoleMaps$Row"
  | 1 => .object "MoleMaps$Row"
  | 2 => .int
  | _ => .object "MoleMaps$Row"
abbrev wsX00 : List Cond := u_ws RX0 TX0 4
theorem nmX0 : ∀ a, a < 4 → ∀ b, b < 4 → a ≠ b → (TX0 a).2.1 ≠ (TX0 b).2.1 := by decide +kernel
theorem tyX0_ok : ∀ k, k < 4 → parseFieldDescriptor (TX0 k).2.2.1 = some (tyX0 k) := by decide +kernel
abbrev cX0_init : ByteArray := prog_2_method_1_code
def yX0_init : MethodName := ⟨RX0, "<init>", "()V"⟩
abbrev cX0_blow : ByteArray := prog_2_method_2_code
def yX0_blow : MethodName := ⟨RX0, "blow", "(LMoleMaps$Plan;IZ)V"⟩
abbrev cX0_findNearest : ByteArray := prog_2_method_3_code
def yX0_findNearest : MethodName := ⟨RX0, "findNearest", "(LMoleMaps$Plan;I)V"⟩
abbrev cX0_spread : ByteArray := prog_2_method_4_code
def yX0_spread : MethodName := ⟨RX0, "spread", "(III)I"⟩
abbrev cX0_heightOf : ByteArray := prog_2_method_5_code
def yX0_heightOf : MethodName := ⟨RX0, "heightOf", "(ILMoleMaps$Plan;Z)I"⟩
abbrev cX0_findFlows : ByteArray := prog_2_method_6_code
def yX0_findFlows : MethodName := ⟨RX0, "findFlows", "(LMoleMaps$Plan;I)V"⟩
abbrev cX0_lower : ByteArray := prog_2_method_7_code
def yX0_lower : MethodName := ⟨RX0, "lower", "(II)I"⟩
abbrev cX0_firstInto : ByteArray := prog_2_method_8_code
def yX0_firstInto : MethodName := ⟨RX0, "firstInto", "(LMoleMaps$Plan;I)I"⟩
abbrev cX0_carrySmoke : ByteArray := prog_2_method_9_code
def yX0_carrySmoke : MethodName := ⟨RX0, "carrySmoke", "(LMoleMaps$Plan;LMoleMaps$Table;)V"⟩
def RX1 : String := "MoleMaps$Crew"
def TX1 : u_T := fun k => match k with
  | 0 => ("MoleMaps$Crew", "kinds", "LMoleMaps$Row;", true)
  | _ => ("MoleMaps$Crew", "size", "I", false)
def tyX1 : Nat → FieldType := fun k => match k with
  | 0 => .object "MoleMaps$Row"
  | _ => .int
abbrev wsX10 : List Cond := u_ws RX1 TX1 2
theorem nmX1 : ∀ a, a < 2 → ∀ b, b < 2 → a ≠ b → (TX1 a).2.1 ≠ (TX1 b).2.1 := by decide +kernel
theorem tyX1_ok : ∀ k, k < 2 → parseFieldDescriptor (TX1 k).2.2.1 = some (tyX1 k) := by decide +kernel
abbrev cX1_init : ByteArray := prog_3_method_1_code
def yX1_init : MethodName := ⟨RX1, "<init>", "()V"⟩
abbrev cX1_isKind : ByteArray := prog_3_method_2_code
def yX1_isKind : MethodName := ⟨RX1, "isKind", "(I)Z"⟩
abbrev cX1_has : ByteArray := prog_3_method_3_code
def yX1_has : MethodName := ⟨RX1, "has", "(I)Z"⟩
abbrev cX1_isOf : ByteArray := prog_3_method_4_code
def yX1_isOf : MethodName := ⟨RX1, "isOf", "(II)Z"⟩
abbrev cX1_bears : ByteArray := prog_3_method_5_code
def yX1_bears : MethodName := ⟨RX1, "bears", "(I)I"⟩
def RX2 : String := "MoleMaps$Draws"
def TX2 : u_T := fun k => match k with
  | _ => ("MoleMaps$Draws", "seed", "I", false)
def tyX2 : Nat → FieldType := fun k => match k with
  | _ => .int
abbrev wsX20 : List Cond := u_ws RX2 TX2 1
theorem nmX2 : ∀ a, a < 1 → ∀ b, b < 1 → a ≠ b → (TX2 a).2.1 ≠ (TX2 b).2.1 := by decide +kernel
theorem tyX2_ok : ∀ k, k < 1 → parseFieldDescriptor (TX2 k).2.2.1 = some (tyX2 k) := by decide +kernel
abbrev cX2_init : ByteArray := prog_4_method_1_code
def yX2_init : MethodName := ⟨RX2, "<init>", "()V"⟩
abbrev cX2_draw : ByteArray := prog_4_method_2_code
def yX2_draw : MethodName := ⟨RX2, "draw", "(I)I"⟩
def RX3 : String := "MoleMaps$Moment"
def TX3 : u_T := fun k => match k with
  | 0 => ("MoleMaps$Moment", "open", "I", false)
  | 1 => ("MoleMaps$Moment", "moon", "Z", false)
  | 2 => ("MoleMaps$Moment", "gas", "LMoleMaps$Row;", true)
  | 3 => ("MoleMaps$Moment", "place", "LMoleMaps$Row;", true)
  | 4 => ("MoleMaps$Moment", "out", "I", false)
  | _ => ("MoleMaps$Moment", "gone", "I", false)
def tyX3 : Nat → FieldType := fun k => match k with
  | 0 => .int
  | 1 => .boolean
  | 2 => .object "MoleMaps$Row"
  | 3 => .object "MoleMaps$Row"
  | 4 => .int
  | _ => .int
abbrev wsX30 : List Cond := u_ws RX3 TX3 6
theorem nmX3 : ∀ a, a < 6 → ∀ b, b < 6 → a ≠ b → (TX3 a).2.1 ≠ (TX3 b).2.1 := by decide +kernel
theorem tyX3_ok : ∀ k, k < 6 → parseFieldDescriptor (TX3 k).2.2.1 = some (tyX3 k) := by decide +kernel
abbrev cX3_init : ByteArray := prog_5_method_1_code
def yX3_init : MethodName := ⟨RX3, "<init>", "()V"⟩
abbrev cX3_begin : ByteArray := prog_5_method_2_code
def yX3_begin : MethodName := ⟨RX3, "begin", "(I)V"⟩
abbrev cX3_copyFrom : ByteArray := prog_5_method_3_code
def yX3_copyFrom : MethodName := ⟨RX3, "copyFrom", "(LMoleMaps$Moment;)V"⟩
abbrev cX3_passMinute : ByteArray := prog_5_method_4_code
def yX3_passMinute : MethodName := ⟨RX3, "passMinute", "(LMoleMaps$Crew;I)V"⟩
def RX4 : String := "MoleMaps$Page"
def TX4 : u_T := fun k => match k with
  | 0 => ("MoleMaps$Page", "letters", "LMoleMaps$Row;", true)
  | 1 => ("MoleMaps$Page", "length", "I", false)
  | _ => ("MoleMaps$Page", "reader", "LMoleMaps$Reader;", true)
def tyX4 : Nat → FieldType := fun k => match k with
  | 0 => .object "MoleMaps$Row"
  | 1 => .int
  | _ => .object "MoleMaps$Reader"
abbrev wsX40 : List Cond := u_ws RX4 TX4 3
theorem nmX4 : ∀ a, a < 3 → ∀ b, b < 3 → a ≠ b → (TX4 a).2.1 ≠ (TX4 b).2.1 := by decide +kernel
theorem tyX4_ok : ∀ k, k < 3 → parseFieldDescriptor (TX4 k).2.2.1 = some (tyX4 k) := by decide +kernel
abbrev cX4_init : ByteArray := prog_6_method_1_code
def yX4_init : MethodName := ⟨RX4, "<init>", "()V"⟩
abbrev cX4_lettersIn : ByteArray := prog_6_method_2_code
def yX4_lettersIn : MethodName := ⟨RX4, "lettersIn", "(J)I"⟩
abbrev cX4_byteOf : ByteArray := prog_6_method_3_code
def yX4_byteOf : MethodName := ⟨RX4, "byteOf", "(JI)I"⟩
abbrev cX4_append : ByteArray := prog_6_method_4_code
def yX4_append : MethodName := ⟨RX4, "append", "(JI)V"⟩
abbrev cX4_firstFault : ByteArray := prog_6_method_5_code
def yX4_firstFault : MethodName := ⟨RX4, "firstFault", "()I"⟩
abbrev cX4_isMine : ByteArray := prog_6_method_6_code
def yX4_isMine : MethodName := ⟨RX4, "isMine", "()Z"⟩
abbrev cX4_digit : ByteArray := prog_6_method_7_code
def yX4_digit : MethodName := ⟨RX4, "digit", "(I)I"⟩
def RX5 : String := "MoleMaps$Plan"
def TX5 : u_T := fun k => match k with
  | 0 => ("MoleMaps$Plan", "galleries", "I", false)
  | 1 => ("MoleMaps$Plan", "one", "LMoleMaps$Row;", true)
  | 2 => ("MoleMaps$Plan", "two", "LMoleMaps$Row;", true)
  | 3 => ("MoleMaps$Plan", "length", "LMoleMaps$Row;", true)
  | 4 => ("MoleMaps$Plan", "doors", "I", false)
  | 5 => ("MoleMaps$Plan", "draught", "LMoleMaps$Row;", true)
  | _ => ("MoleMaps$Plan", "shafts", "I", false)
def tyX5 : Nat → FieldType := fun k => match k with
  | 0 => .int
  | 1 => .object "MoleMaps$Row"
  | 2 => .object "MoleMaps$Row"
  | 3 => .object "MoleMaps$Row"
  | 4 => .int
  | 5 => .object "MoleMaps$Row"
  | _ => .int
abbrev wsX50 : List Cond := u_ws RX5 TX5 7
theorem nmX5 : ∀ a, a < 7 → ∀ b, b < 7 → a ≠ b → (TX5 a).2.1 ≠ (TX5 b).2.1 := by decide +kernel
theorem tyX5_ok : ∀ k, k < 7 → parseFieldDescriptor (TX5 k).2.2.1 = some (tyX5 k) := by decide +kernel
abbrev cX5_init : ByteArray := prog_7_method_1_code
def yX5_init : MethodName := ⟨RX5, "<init>", "()V"⟩
abbrev cX5_isRead : ByteArray := prog_7_method_2_code
def yX5_isRead : MethodName := ⟨RX5, "isRead", "()Z"⟩
abbrev cX5_hasGallery : ByteArray := prog_7_method_3_code
def yX5_hasGallery : MethodName := ⟨RX5, "hasGallery", "(I)Z"⟩
abbrev cX5_isShaft : ByteArray := prog_7_method_4_code
def yX5_isShaft : MethodName := ⟨RX5, "isShaft", "(I)Z"⟩
abbrev cX5_allGalleries : ByteArray := prog_7_method_5_code
def yX5_allGalleries : MethodName := ⟨RX5, "allGalleries", "()I"⟩
abbrev cX5_readFrom : ByteArray := prog_7_method_6_code
def yX5_readFrom : MethodName := ⟨RX5, "readFrom", "(LMoleMaps$Page;)V"⟩
abbrev cX5_readShafts : ByteArray := prog_7_method_7_code
def yX5_readShafts : MethodName := ⟨RX5, "readShafts", "(LMoleMaps$Page;I)V"⟩
abbrev cX5_shaftHeight : ByteArray := prog_7_method_8_code
def yX5_shaftHeight : MethodName := ⟨RX5, "shaftHeight", "(IZ)I"⟩
abbrev cX5_isAt : ByteArray := prog_7_method_9_code
def yX5_isAt : MethodName := ⟨RX5, "isAt", "(II)Z"⟩
abbrev cX5_otherEnd : ByteArray := prog_7_method_10_code
def yX5_otherEnd : MethodName := ⟨RX5, "otherEnd", "(II)I"⟩
abbrev cX5_galleriesAt : ByteArray := prog_7_method_11_code
def yX5_galleriesAt : MethodName := ⟨RX5, "galleriesAt", "(II)I"⟩
def RX6 : String := "MoleMaps$Reader"
def TX6 : u_T := fun k => match k with
  | 0 => ("MoleMaps$Reader", "due", "I", false)
  | 1 => ("MoleMaps$Reader", "first", "I", false)
  | 2 => ("MoleMaps$Reader", "galleries", "I", false)
  | _ => ("MoleMaps$Reader", "shafts", "I", false)
def tyX6 : Nat → FieldType := fun k => match k with
  | 0 => .int
  | 1 => .int
  | 2 => .int
  | _ => .int
abbrev wsX60 : List Cond := u_ws RX6 TX6 4
theorem nmX6 : ∀ a, a < 4 → ∀ b, b < 4 → a ≠ b → (TX6 a).2.1 ≠ (TX6 b).2.1 := by decide +kernel
theorem tyX6_ok : ∀ k, k < 4 → parseFieldDescriptor (TX6 k).2.2.1 = some (tyX6 k) := by decide +kernel
abbrev cX6_init : ByteArray := prog_8_method_1_code
def yX6_init : MethodName := ⟨RX6, "<init>", "()V"⟩
abbrev cX6_start : ByteArray := prog_8_method_2_code
def yX6_start : MethodName := ⟨RX6, "start", "()V"⟩
abbrev cX6_takes : ByteArray := prog_8_method_3_code
def yX6_takes : MethodName := ⟨RX6, "takes", "(I)Z"⟩
abbrev cX6_mayEnd : ByteArray := prog_8_method_4_code
def yX6_mayEnd : MethodName := ⟨RX6, "mayEnd", "()Z"⟩
abbrev cX6_takesBreak : ByteArray := prog_8_method_5_code
def yX6_takesBreak : MethodName := ⟨RX6, "takesBreak", "(I)Z"⟩
abbrev cX6_takesShaft : ByteArray := prog_8_method_6_code
def yX6_takesShaft : MethodName := ⟨RX6, "takesShaft", "(I)Z"⟩
def RX7 : String := "MoleMaps$Rescue"
def TX7 : u_T := fun k => match k with
  | 0 => ("MoleMaps$Rescue", "best", "LMoleMaps$Row;", true)
  | 1 => ("MoleMaps$Rescue", "leastRisk", "I", false)
  | 2 => ("MoleMaps$Rescue", "order", "LMoleMaps$Row;", true)
  | 3 => ("MoleMaps$Rescue", "size", "I", false)
  | _ => ("MoleMaps$Rescue", "ways", "LMoleMaps$Table;", true)
def tyX7 : Nat → FieldType := fun k => match k with
  | 0 => .object "MoleMaps$Row"
  | 1 => .int
  | 2 => .object "MoleMaps$Row"
  | 3 => .int
  | _ => .object "MoleMaps$Table"
abbrev wsX70 : List Cond := u_ws RX7 TX7 5
theorem nmX7 : ∀ a, a < 5 → ∀ b, b < 5 → a ≠ b → (TX7 a).2.1 ≠ (TX7 b).2.1 := by decide +kernel
theorem tyX7_ok : ∀ k, k < 5 → parseFieldDescriptor (TX7 k).2.2.1 = some (tyX7 k) := by decide +kernel
abbrev cX7_init : ByteArray := prog_9_method_1_code
def yX7_init : MethodName := ⟨RX7, "<init>", "()V"⟩
def RX8 : String := "MoleMaps$Row"
def TX8 : u_T := fun k => match k with
  | _ => ("MoleMaps$Row", "cells", "[I", true)
def tyX8 : Nat → FieldType := fun k => match k with
  | _ => .array .int
abbrev wsX80 : List Cond := u_ws RX8 TX8 1
theorem nmX8 : ∀ a, a < 1 → ∀ b, b < 1 → a ≠ b → (TX8 a).2.1 ≠ (TX8 b).2.1 := by decide +kernel
theorem tyX8_ok : ∀ k, k < 1 → parseFieldDescriptor (TX8 k).2.2.1 = some (tyX8 k) := by decide +kernel
abbrev cX8_init : ByteArray := prog_10_method_1_code
def yX8_init : MethodName := ⟨RX8, "<init>", "(I)V"⟩
abbrev cX8_get : ByteArray := prog_10_method_2_code
def yX8_get : MethodName := ⟨RX8, "get", "(I)I"⟩
abbrev cX8_set : ByteArray := prog_10_method_3_code
def yX8_set : MethodName := ⟨RX8, "set", "(II)V"⟩
abbrev cX8_fill : ByteArray := prog_10_method_4_code
def yX8_fill : MethodName := ⟨RX8, "fill", "(I)V"⟩
abbrev cX8_copyFrom : ByteArray := prog_10_method_5_code
def yX8_copyFrom : MethodName := ⟨RX8, "copyFrom", "(LMoleMaps$Row;)V"⟩
abbrev cX8_sum : ByteArray := prog_10_method_6_code
def yX8_sum : MethodName := ⟨RX8, "sum", "()I"⟩
def RX9 : String := "MoleMaps$Table"
def TX9 : u_T := fun k => match k with
  | _ => ("MoleMaps$Table", "lengths", "LMoleMaps$Row;", true)
def tyX9 : Nat → FieldType := fun k => match k with
  | _ => .object "MoleMaps$Row"
abbrev wsX90 : List Cond := u_ws RX9 TX9 1
theorem nmX9 : ∀ a, a < 1 → ∀ b, b < 1 → a ≠ b → (TX9 a).2.1 ≠ (TX9 b).2.1 := by decide +kernel
theorem tyX9_ok : ∀ k, k < 1 → parseFieldDescriptor (TX9 k).2.2.1 = some (tyX9 k) := by decide +kernel
abbrev cX9_init : ByteArray := prog_11_method_1_code
def yX9_init : MethodName := ⟨RX9, "<init>", "()V"⟩
abbrev cX9_clear : ByteArray := prog_11_method_2_code
def yX9_clear : MethodName := ⟨RX9, "clear", "()V"⟩
abbrev cX9_between : ByteArray := prog_11_method_3_code
def yX9_between : MethodName := ⟨RX9, "between", "(II)I"⟩
abbrev cX9_link : ByteArray := prog_11_method_4_code
def yX9_link : MethodName := ⟨RX9, "link", "(III)V"⟩
abbrev cX9_joinWays : ByteArray := prog_11_method_5_code
def yX9_joinWays : MethodName := ⟨RX9, "joinWays", "()V"⟩
def RX10 : String := "MoleMaps"
def TX10 : u_T := fun k => match k with
  | 0 => ("MoleMaps", "page", "LMoleMaps$Page;", true)
  | 1 => ("MoleMaps", "plan", "LMoleMaps$Plan;", true)
  | 2 => ("MoleMaps", "air", "LMoleMaps$Air;", true)
  | 3 => ("MoleMaps", "trial", "LMoleMaps$Air;", true)
  | 4 => ("MoleMaps", "smoke", "LMoleMaps$Table;", true)
  | 5 => ("MoleMaps", "crew", "LMoleMaps$Crew;", true)
  | 6 => ("MoleMaps", "now", "LMoleMaps$Moment;", true)
  | 7 => ("MoleMaps", "kept", "LMoleMaps$Moment;", true)
  | 8 => ("MoleMaps", "dream", "LMoleMaps$Moment;", true)
  | 9 => ("MoleMaps", "draws", "LMoleMaps$Draws;", true)
  | 10 => ("MoleMaps", "rescuers", "LMoleMaps$Rescue;", true)
  | 11 => ("MoleMaps", "minesRead", "I", false)
  | 12 => ("MoleMaps", "doorsDone", "I", false)
  | 13 => ("MoleMaps", "keptMine", "I", false)
  | _ => ("MoleMaps", "keptMen", "I", false)
def tyX10 : Nat → FieldType := fun k => match k with
  | 0 => .object "MoleMaps$Page"
  | 1 => .object "MoleMaps$Plan"
  | 2 => .object "MoleMaps$Air"
  | 3 => .object "MoleMaps$Air"
  | 4 => .object "MoleMaps$Table"
  | 5 => .object "MoleMaps$Crew"
  | 6 => .object "MoleMaps$Moment"
  | 7 => .object "MoleMaps$Moment"
  | 8 => .object "MoleMaps$Moment"
  | 9 => .object "MoleMaps$Draws"
  | 10 => .object "MoleMaps$Rescue"
  | 11 => .int
  | 12 => .int
  | 13 => .int
  | _ => .int
abbrev wsX100 : List Cond := u_ws RX10 TX10 15
theorem nmX10 : ∀ a, a < 15 → ∀ b, b < 15 → a ≠ b → (TX10 a).2.1 ≠ (TX10 b).2.1 := by decide +kernel
theorem tyX10_ok : ∀ k, k < 15 → parseFieldDescriptor (TX10 k).2.2.1 = some (tyX10 k) := by decide +kernel
abbrev cX10_init : ByteArray := prog_1_method_1_code
def yX10_init : MethodName := ⟨RX10, "<init>", "()V"⟩
abbrev cX10_letters : ByteArray := prog_1_method_2_code
def yX10_letters : MethodName := ⟨RX10, "letters", "(J)I"⟩
abbrev cX10_fault : ByteArray := prog_1_method_4_code
def yX10_fault : MethodName := ⟨RX10, "fault", "()I"⟩
abbrev cX10_mine : ByteArray := prog_1_method_5_code
def yX10_mine : MethodName := ⟨RX10, "mine", "()I"⟩
abbrev cX10_gallery : ByteArray := prog_1_method_6_code
def yX10_gallery : MethodName := ⟨RX10, "gallery", "(II)I"⟩
abbrev cX10_knot : ByteArray := prog_1_method_7_code
def yX10_knot : MethodName := ⟨RX10, "knot", "(II)I"⟩
abbrev cX10_door : ByteArray := prog_1_method_8_code
def yX10_door : MethodName := ⟨RX10, "door", "(IZ)I"⟩
abbrev cX10_turn : ByteArray := prog_1_method_9_code
def yX10_turn : MethodName := ⟨RX10, "turn", "()I"⟩
abbrev cX10_man : ByteArray := prog_1_method_10_code
def yX10_man : MethodName := ⟨RX10, "man", "(II)I"⟩
abbrev cX10_about : ByteArray := prog_1_method_11_code
def yX10_about : MethodName := ⟨RX10, "about", "(II)I"⟩
abbrev cX10_as : ByteArray := prog_1_method_12_code
def yX10_as : MethodName := ⟨RX10, "as", "(II)I"⟩
abbrev cX10_walk : ByteArray := prog_1_method_13_code
def yX10_walk : MethodName := ⟨RX10, "walk", "(II)I"⟩
abbrev cX10_minutes : ByteArray := prog_1_method_14_code
def yX10_minutes : MethodName := ⟨RX10, "minutes", "(I)I"⟩
abbrev cX10_smelt : ByteArray := prog_1_method_15_code
def yX10_smelt : MethodName := ⟨RX10, "smelt", "(II)I"⟩
abbrev cX10_wayOut : ByteArray := prog_1_method_17_code
def yX10_wayOut : MethodName := ⟨RX10, "wayOut", "(I)I"⟩
abbrev cX10_walks : ByteArray := prog_1_method_21_code
def yX10_walks : MethodName := ⟨RX10, "walks", "(III)I"⟩
abbrev cX10_count : ByteArray := prog_1_method_24_code
def yX10_count : MethodName := ⟨RX10, "count", "(I)I"⟩
abbrev cX10_isKnot : ByteArray := prog_1_method_26_code
def yX10_isKnot : MethodName := ⟨RX10, "isKnot", "(I)Z"⟩
abbrev cX10_bit : ByteArray := prog_1_method_28_code
def yX10_bit : MethodName := ⟨RX10, "bit", "(II)I"⟩
abbrev cX10_windChanges : ByteArray := prog_1_method_29_code
def yX10_windChanges : MethodName := ⟨RX10, "windChanges", "()V"⟩
abbrev cX10_dreamWalk : ByteArray := prog_1_method_35_code
def yX10_dreamWalk : MethodName := ⟨RX10, "dreamWalk", "()V"⟩
abbrev cX10_placeOfBit : ByteArray := prog_1_method_36_code
def yX10_placeOfBit : MethodName := ⟨RX10, "placeOfBit", "(II)I"⟩
def RX11 : String := "MoleMapsModel"
def TX11 : u_T := fun k => match k with
  | _ => ("", "", "", false)
def tyX11 : Nat → FieldType := fun k => match k with
  | _ => .int
abbrev wsX110 : List Cond := u_ws RX11 TX11 0
theorem nmX11 : ∀ a, a < 0 → ∀ b, b < 0 → a ≠ b → (TX11 a).2.1 ≠ (TX11 b).2.1 := by decide +kernel
theorem tyX11_ok : ∀ k, k < 0 → parseFieldDescriptor (TX11 k).2.2.1 = some (tyX11 k) := by decide +kernel
def RJ6 : String := "java/lang/Integer"
def TJ6 : u_T := fun k => match k with
  | _ => ("", "", "", false)
def tyJ6 : Nat → FieldType := fun k => match k with
  | _ => .int
abbrev wsJ60 : List Cond := u_ws RJ6 TJ6 0
theorem nmJ6 : ∀ a, a < 0 → ∀ b, b < 0 → a ≠ b → (TJ6 a).2.1 ≠ (TJ6 b).2.1 := by decide +kernel
theorem tyJ6_ok : ∀ k, k < 0 → parseFieldDescriptor (TJ6 k).2.2.1 = some (tyJ6 k) := by decide +kernel
abbrev cJ6_numberOfTrailingZeros_0f7a4 : ByteArray := prog_14_method_48_code
def yJ6_numberOfTrailingZeros_0f7a4 : MethodName := ⟨RJ6, "numberOfTrailingZeros", "(I)I"⟩
abbrev cJ6_bitCount_0f7a4 : ByteArray := prog_14_method_49_code
def yJ6_bitCount_0f7a4 : MethodName := ⟨RJ6, "bitCount", "(I)I"⟩
def RJ9 : String := "java/lang/Math"
def TJ9 : u_T := fun k => match k with
  | _ => ("", "", "", false)
def tyJ9 : Nat → FieldType := fun k => match k with
  | _ => .int
abbrev wsJ90 : List Cond := u_ws RJ9 TJ9 0
theorem nmJ9 : ∀ a, a < 0 → ∀ b, b < 0 → a ≠ b → (TJ9 a).2.1 ≠ (TJ9 b).2.1 := by decide +kernel
theorem tyJ9_ok : ∀ k, k < 0 → parseFieldDescriptor (TJ9 k).2.2.1 = some (tyJ9 k) := by decide +kernel
abbrev cJ9_min_7cf53 : ByteArray := prog_15_method_69_code
def yJ9_min_7cf53 : MethodName := ⟨RJ9, "min", "(II)I"⟩
def RL : String := "MoleMapsLaw"
abbrev cL_cell : ByteArray := method_2_code
def yL_cell : MethodName := ⟨RL, "cell", "([II)I"⟩
abbrev cL_at : ByteArray := method_3_code
def yL_at : MethodName := ⟨RL, "at", "(II)I"⟩
abbrev cL_mineText : ByteArray := method_4_code
def yL_mineText : MethodName := ⟨RL, "mineText", "([III[I[I)I"⟩
abbrev cL_write : ByteArray := method_5_code
def yL_write : MethodName := ⟨RL, "write", "(LMoleMaps;[II)Z"⟩
abbrev cL_men : ByteArray := method_6_code
def yL_men : MethodName := ⟨RL, "men", "(LMoleMaps;[III[I)Z"⟩
abbrev cL_shaft : ByteArray := method_7_code
def yL_shaft : MethodName := ⟨RL, "shaft", "([II)I"⟩
abbrev cL_height : ByteArray := method_8_code
def yL_height : MethodName := ⟨RL, "height", "([II)I"⟩
abbrev cL_into : ByteArray := method_9_code
def yL_into : MethodName := ⟨RL, "into", "([II)I"⟩
abbrev cL_other : ByteArray := method_10_code
def yL_other : MethodName := ⟨RL, "other", "([III)I"⟩
abbrev cL_air : ByteArray := method_11_code
def yL_air : MethodName := ⟨RL, "air", "([I)[I"⟩
abbrev cL_breathes : ByteArray := method_12_code
def yL_breathes : MethodName := ⟨RL, "breathes", "([I[II)Z"⟩
abbrev cL_bears : ByteArray := method_13_code
def yL_bears : MethodName := ⟨RL, "bears", "(I)I"⟩
abbrev cL_minute : ByteArray := method_14_code
def yL_minute : MethodName := ⟨RL, "minute", "([I[I[I)I"⟩
abbrev cL_stands : ByteArray := method_15_code
def yL_stands : MethodName := ⟨RL, "stands", "(LMoleMaps;[I[I)Z"⟩
abbrev cL_law : ByteArray := code
def yL_law : MethodName := ⟨RL, "law", "([I)Z"⟩
abbrev cL_smoke : ByteArray := method_17_code
def yL_smoke : MethodName := ⟨RL, "smoke", "(LMoleMaps;[II)Z"⟩
abbrev cL_walks : ByteArray := method_18_code
def yL_walks : MethodName := ⟨RL, "walks", "(LMoleMaps;[I[III)Z"⟩
def wsX8_init : List Cond := .code yX8_init cX8_init 2 none :: ([.methodLink RX8 1 objectInit, .instanceMethod objectInit, .code objectInit ⟨#[0xb1]⟩ 1 none, .arrayClass .int, .fieldLink RX8 7 "MoleMaps$Row" "cells" "[I"] ++ wsX80)
def wsX0_init : List Cond := .code yX0_init cX0_init 1 none :: ([.methodLink RX0 3 objectInit, .instanceMethod objectInit, .code objectInit ⟨#[0xb1]⟩ 1 none, .classLink RX0 9 RX8, .instantiable RX8 1, .initialized RX8, .fieldLink RX0 14 "MoleMaps$Air" "height" "LMoleMaps$Row;", .fieldLink RX0 20 "MoleMaps$Air" "into" "LMoleMaps$Row;", .fieldLink RX0 23 "MoleMaps$Air" "nearest" "LMoleMaps$Row;", .methodLink RX0 11 yX8_init, .instanceMethod yX8_init, .code yX8_init cX8_init 2 none, .methodLink RX8 1 objectInit, .arrayClass .int, .fieldLink RX8 7 "MoleMaps$Row" "cells" "[I"] ++ wsX80 ++ wsX00)
def wsX8_set : List Cond := .code yX8_set cX8_set 3 none :: ([.fieldLink RX8 7 "MoleMaps$Row" "cells" "[I"] ++ wsX80)
def wsX10_bit : List Cond := .code yX10_bit cX10_bit 2 (some .int) :: ([])
def wsX8_get : List Cond := .code yX8_get cX8_get 2 (some .int) :: ([.fieldLink RX8 7 "MoleMaps$Row" "cells" "[I"] ++ wsX80)
def wsX0_spread : List Cond := .code yX0_spread cX0_spread 4 (some .int) :: ([.fieldLink RX0 23 "MoleMaps$Air" "nearest" "LMoleMaps$Row;", .static yX10_bit, .initialized RX10, .code yX10_bit cX10_bit 2 (some .int), .methodLink RX0 30 yX8_get, .instanceMethod yX8_get, .selects RX8 yX8_get yX8_get, .initialized RX8, .code yX8_get cX8_get 2 (some .int), .fieldLink RX8 7 "MoleMaps$Row" "cells" "[I", .methodLink RX0 38 yX8_set, .instanceMethod yX8_set, .selects RX8 yX8_set yX8_set, .code yX8_set cX8_set 3 none] ++ wsX00 ++ wsX80)
def wsX0_findNearest : List Cond := .code yX0_findNearest cX0_findNearest 7 none :: ([.fieldLink RX0 23 "MoleMaps$Air" "nearest" "LMoleMaps$Row;", .fieldLink RX0 45 "MoleMaps$Plan" "shafts" "I", .fieldLink RX0 51 "MoleMaps$Plan" "galleries" "I", .fieldLink RX0 58 "MoleMaps$Plan" "one" "LMoleMaps$Row;", .fieldLink RX0 61 "MoleMaps$Plan" "two" "LMoleMaps$Row;", .methodLink RX0 38 yX8_set, .instanceMethod yX8_set, .selects RX8 yX8_set yX8_set, .initialized RX8, .code yX8_set cX8_set 3 none, .fieldLink RX8 7 "MoleMaps$Row" "cells" "[I", .static yX10_bit, .initialized RX10, .code yX10_bit cX10_bit 2 (some .int), .methodLink RX0 30 yX8_get, .instanceMethod yX8_get, .selects RX8 yX8_get yX8_get, .code yX8_get cX8_get 2 (some .int), .methodLink RX0 64 yX0_spread, .instanceMethod yX0_spread, .selects RX0 yX0_spread yX0_spread, .initialized RX0, .code yX0_spread cX0_spread 4 (some .int)] ++ wsX00 ++ wsX50 ++ wsX80)
def wsJ6_bitCount_0f7a4 : List Cond := .code yJ6_bitCount_0f7a4 cJ6_bitCount_0f7a4 1 (some .int) :: ([.constant RJ6 265 (1431655765), .constant RJ6 266 (858993459), .constant RJ6 267 (252645135)])
def wsX5_shaftHeight : List Cond := .code yX5_shaftHeight cX5_shaftHeight 4 (some .int) :: ([.fieldLink RX5 26 "MoleMaps$Plan" "draught" "LMoleMaps$Row;", .methodLink RX5 48 yX8_get, .instanceMethod yX8_get, .selects RX8 yX8_get yX8_get, .initialized RX8, .code yX8_get cX8_get 2 (some .int), .fieldLink RX8 7 "MoleMaps$Row" "cells" "[I"] ++ wsX50 ++ wsX80)
def wsX0_heightOf : List Cond := .code yX0_heightOf cX0_heightOf 6 (some .int) :: ([.methodLink RX0 68 yJ6_bitCount_0f7a4, .static yJ6_bitCount_0f7a4, .initialized RJ6, .code yJ6_bitCount_0f7a4 cJ6_bitCount_0f7a4 1 (some .int), .constant RJ6 265 (1431655765), .constant RJ6 266 (858993459), .constant RJ6 267 (252645135), .static yX10_bit, .initialized RX10, .code yX10_bit cX10_bit 2 (some .int), .methodLink RX0 73 yX5_shaftHeight, .instanceMethod yX5_shaftHeight, .selects RX5 yX5_shaftHeight yX5_shaftHeight, .initialized RX5, .code yX5_shaftHeight cX5_shaftHeight 4 (some .int), .fieldLink RX5 26 "MoleMaps$Plan" "draught" "LMoleMaps$Row;", .methodLink RX5 48 yX8_get, .instanceMethod yX8_get, .selects RX8 yX8_get yX8_get, .initialized RX8, .code yX8_get cX8_get 2 (some .int), .fieldLink RX8 7 "MoleMaps$Row" "cells" "[I"] ++ wsX50 ++ wsX80)
def wsX0_lower : List Cond := .code yX0_lower cX0_lower 5 (some .int) :: ([.fieldLink RX0 14 "MoleMaps$Air" "height" "LMoleMaps$Row;", .methodLink RX0 30 yX8_get, .instanceMethod yX8_get, .selects RX8 yX8_get yX8_get, .initialized RX8, .code yX8_get cX8_get 2 (some .int), .fieldLink RX8 7 "MoleMaps$Row" "cells" "[I"] ++ wsX00 ++ wsX80)
def wsX0_findFlows : List Cond := .code yX0_findFlows cX0_findFlows 7 none :: ([.fieldLink RX0 77 "MoleMaps$Air" "breathing" "I", .fieldLink RX0 51 "MoleMaps$Plan" "galleries" "I", .fieldLink RX0 58 "MoleMaps$Plan" "one" "LMoleMaps$Row;", .fieldLink RX0 61 "MoleMaps$Plan" "two" "LMoleMaps$Row;", .fieldLink RX0 20 "MoleMaps$Air" "into" "LMoleMaps$Row;", .methodLink RX0 30 yX8_get, .instanceMethod yX8_get, .selects RX8 yX8_get yX8_get, .initialized RX8, .code yX8_get cX8_get 2 (some .int), .fieldLink RX8 7 "MoleMaps$Row" "cells" "[I", .static yX10_bit, .initialized RX10, .code yX10_bit cX10_bit 2 (some .int), .methodLink RX0 80 yX0_lower, .instanceMethod yX0_lower, .selects RX0 yX0_lower yX0_lower, .initialized RX0, .code yX0_lower cX0_lower 5 (some .int), .fieldLink RX0 14 "MoleMaps$Air" "height" "LMoleMaps$Row;", .methodLink RX0 38 yX8_set, .instanceMethod yX8_set, .selects RX8 yX8_set yX8_set, .code yX8_set cX8_set 3 none] ++ wsX00 ++ wsX50 ++ wsX80)
def wsX0_blow_r1 : List Cond := [Cond.fieldLink RX0 14 "MoleMaps$Air" "height" "LMoleMaps$Row;", Cond.fieldLink RX0 23 "MoleMaps$Air" "nearest" "LMoleMaps$Row;", Cond.methodLink RX0 26 yX0_findNearest, Cond.instanceMethod yX0_findNearest, Cond.selects RX0 yX0_findNearest yX0_findNearest, Cond.initialized RX0, Cond.code yX0_findNearest cX0_findNearest 7 none, Cond.fieldLink RX0 45 "MoleMaps$Plan" "shafts" "I", Cond.fieldLink RX0 51 "MoleMaps$Plan" "galleries" "I", Cond.fieldLink RX0 58 "MoleMaps$Plan" "one" "LMoleMaps$Row;", Cond.fieldLink RX0 61 "MoleMaps$Plan" "two" "LMoleMaps$Row;", Cond.methodLink RX0 38 yX8_set, Cond.instanceMethod yX8_set, Cond.selects RX8 yX8_set yX8_set, Cond.initialized RX8, Cond.code yX8_set cX8_set 3 none, Cond.fieldLink RX8 7 "MoleMaps$Row" "cells" "[I", Cond.static yX10_bit, Cond.initialized RX10, Cond.code yX10_bit cX10_bit 2 (some .int), Cond.methodLink RX0 30 yX8_get, Cond.instanceMethod yX8_get, Cond.selects RX8 yX8_get yX8_get, Cond.code yX8_get cX8_get 2 (some .int)]
def wsX0_blow_r2 : List Cond := [Cond.methodLink RX0 64 yX0_spread, Cond.instanceMethod yX0_spread, Cond.selects RX0 yX0_spread yX0_spread, Cond.code yX0_spread cX0_spread 4 (some .int), Cond.methodLink RX0 34 yX0_heightOf, Cond.static yX0_heightOf, Cond.code yX0_heightOf cX0_heightOf 6 (some .int), Cond.methodLink RX0 68 yJ6_bitCount_0f7a4, Cond.static yJ6_bitCount_0f7a4, Cond.initialized RJ6, Cond.code yJ6_bitCount_0f7a4 cJ6_bitCount_0f7a4 1 (some .int), Cond.constant RJ6 265 (1431655765), Cond.constant RJ6 266 (858993459), Cond.constant RJ6 267 (252645135), Cond.methodLink RX0 73 yX5_shaftHeight, Cond.instanceMethod yX5_shaftHeight, Cond.selects RX5 yX5_shaftHeight yX5_shaftHeight, Cond.initialized RX5, Cond.code yX5_shaftHeight cX5_shaftHeight 4 (some .int), Cond.fieldLink RX5 26 "MoleMaps$Plan" "draught" "LMoleMaps$Row;", Cond.methodLink RX5 48 yX8_get, Cond.methodLink RX0 42 yX0_findFlows, Cond.instanceMethod yX0_findFlows, Cond.selects RX0 yX0_findFlows yX0_findFlows]
def wsX0_blow_r3 : List Cond := [Cond.code yX0_findFlows cX0_findFlows 7 none, Cond.fieldLink RX0 77 "MoleMaps$Air" "breathing" "I", Cond.fieldLink RX0 20 "MoleMaps$Air" "into" "LMoleMaps$Row;", Cond.methodLink RX0 80 yX0_lower, Cond.instanceMethod yX0_lower, Cond.selects RX0 yX0_lower yX0_lower, Cond.code yX0_lower cX0_lower 5 (some .int)]
def wsX0_blow : List Cond := .code yX0_blow cX0_blow 5 none :: ((wsX0_blow_r1 ++ (wsX0_blow_r2 ++ wsX0_blow_r3)) ++ wsX00 ++ wsX50 ++ wsX80)
def wsX0_firstInto : List Cond := .code yX0_firstInto cX0_firstInto 4 (some .int) :: ([.fieldLink RX0 51 "MoleMaps$Plan" "galleries" "I", .fieldLink RX0 20 "MoleMaps$Air" "into" "LMoleMaps$Row;", .methodLink RX0 30 yX8_get, .instanceMethod yX8_get, .selects RX8 yX8_get yX8_get, .initialized RX8, .code yX8_get cX8_get 2 (some .int), .fieldLink RX8 7 "MoleMaps$Row" "cells" "[I"] ++ wsX50 ++ wsX00 ++ wsX80)
def wsX8_fill : List Cond := .code yX8_fill cX8_fill 3 none :: ([.fieldLink RX8 7 "MoleMaps$Row" "cells" "[I"] ++ wsX80)
def wsX9_clear : List Cond := .code yX9_clear cX9_clear 2 none :: ([.fieldLink RX9 14 "MoleMaps$Table" "lengths" "LMoleMaps$Row;", .methodLink RX9 20 yX8_fill, .instanceMethod yX8_fill, .selects RX8 yX8_fill yX8_fill, .initialized RX8, .code yX8_fill cX8_fill 3 none, .fieldLink RX8 7 "MoleMaps$Row" "cells" "[I", .methodLink RX9 23 yX8_set, .instanceMethod yX8_set, .selects RX8 yX8_set yX8_set, .code yX8_set cX8_set 3 none] ++ wsX90 ++ wsX80)
def wsX5_otherEnd : List Cond := .code yX5_otherEnd cX5_otherEnd 3 (some .int) :: ([.fieldLink RX5 14 "MoleMaps$Plan" "one" "LMoleMaps$Row;", .fieldLink RX5 20 "MoleMaps$Plan" "two" "LMoleMaps$Row;", .methodLink RX5 48 yX8_get, .instanceMethod yX8_get, .selects RX8 yX8_get yX8_get, .initialized RX8, .code yX8_get cX8_get 2 (some .int), .fieldLink RX8 7 "MoleMaps$Row" "cells" "[I"] ++ wsX50 ++ wsX80)
def wsX9_between : List Cond := .code yX9_between cX9_between 3 (some .int) :: ([.fieldLink RX9 14 "MoleMaps$Table" "lengths" "LMoleMaps$Row;", .methodLink RX9 27 yX8_get, .instanceMethod yX8_get, .selects RX8 yX8_get yX8_get, .initialized RX8, .code yX8_get cX8_get 2 (some .int), .fieldLink RX8 7 "MoleMaps$Row" "cells" "[I"] ++ wsX90 ++ wsX80)
def wsX9_link : List Cond := .code yX9_link cX9_link 5 none :: ([.fieldLink RX9 14 "MoleMaps$Table" "lengths" "LMoleMaps$Row;", .methodLink RX9 31 yX9_between, .instanceMethod yX9_between, .selects RX9 yX9_between yX9_between, .initialized RX9, .code yX9_between cX9_between 3 (some .int), .methodLink RX9 27 yX8_get, .instanceMethod yX8_get, .selects RX8 yX8_get yX8_get, .initialized RX8, .code yX8_get cX8_get 2 (some .int), .fieldLink RX8 7 "MoleMaps$Row" "cells" "[I", .methodLink RX9 23 yX8_set, .instanceMethod yX8_set, .selects RX8 yX8_set yX8_set, .code yX8_set cX8_set 3 none] ++ wsX90 ++ wsX80)
def wsX9_joinWays : List Cond := .code yX9_joinWays cX9_joinWays 6 none :: ([.methodLink RX9 31 yX9_between, .instanceMethod yX9_between, .selects RX9 yX9_between yX9_between, .initialized RX9, .code yX9_between cX9_between 3 (some .int), .fieldLink RX9 14 "MoleMaps$Table" "lengths" "LMoleMaps$Row;", .methodLink RX9 27 yX8_get, .instanceMethod yX8_get, .selects RX8 yX8_get yX8_get, .initialized RX8, .code yX8_get cX8_get 2 (some .int), .fieldLink RX8 7 "MoleMaps$Row" "cells" "[I", .methodLink RX9 35 yX9_link, .instanceMethod yX9_link, .selects RX9 yX9_link yX9_link, .code yX9_link cX9_link 5 none, .methodLink RX9 23 yX8_set, .instanceMethod yX8_set, .selects RX8 yX8_set yX8_set, .code yX8_set cX8_set 3 none] ++ wsX90 ++ wsX80)
def wsX0_carrySmoke_r1 : List Cond := [Cond.fieldLink RX0 51 "MoleMaps$Plan" "galleries" "I", Cond.fieldLink RX0 20 "MoleMaps$Air" "into" "LMoleMaps$Row;", Cond.fieldLink RX0 91 "MoleMaps$Plan" "length" "LMoleMaps$Row;", Cond.methodLink RX0 83 yX9_clear, Cond.instanceMethod yX9_clear, Cond.selects RX9 yX9_clear yX9_clear, Cond.initialized RX9, Cond.code yX9_clear cX9_clear 2 none, Cond.fieldLink RX9 14 "MoleMaps$Table" "lengths" "LMoleMaps$Row;", Cond.methodLink RX9 20 yX8_fill, Cond.instanceMethod yX8_fill, Cond.selects RX8 yX8_fill yX8_fill, Cond.initialized RX8, Cond.code yX8_fill cX8_fill 3 none, Cond.fieldLink RX8 7 "MoleMaps$Row" "cells" "[I", Cond.methodLink RX9 23 yX8_set, Cond.instanceMethod yX8_set, Cond.selects RX8 yX8_set yX8_set, Cond.code yX8_set cX8_set 3 none, Cond.methodLink RX0 30 yX8_get, Cond.instanceMethod yX8_get, Cond.selects RX8 yX8_get yX8_get, Cond.code yX8_get cX8_get 2 (some .int), Cond.methodLink RX0 88 yX5_otherEnd]
def wsX0_carrySmoke_r2 : List Cond := [Cond.instanceMethod yX5_otherEnd, Cond.selects RX5 yX5_otherEnd yX5_otherEnd, Cond.initialized RX5, Cond.code yX5_otherEnd cX5_otherEnd 3 (some .int), Cond.fieldLink RX5 14 "MoleMaps$Plan" "one" "LMoleMaps$Row;", Cond.fieldLink RX5 20 "MoleMaps$Plan" "two" "LMoleMaps$Row;", Cond.methodLink RX5 48 yX8_get, Cond.methodLink RX0 94 yX9_link, Cond.instanceMethod yX9_link, Cond.selects RX9 yX9_link yX9_link, Cond.code yX9_link cX9_link 5 none, Cond.methodLink RX9 31 yX9_between, Cond.instanceMethod yX9_between, Cond.selects RX9 yX9_between yX9_between, Cond.code yX9_between cX9_between 3 (some .int), Cond.methodLink RX9 27 yX8_get, Cond.methodLink RX0 98 yX9_joinWays, Cond.instanceMethod yX9_joinWays, Cond.selects RX9 yX9_joinWays yX9_joinWays, Cond.code yX9_joinWays cX9_joinWays 6 none, Cond.methodLink RX9 35 yX9_link]
def wsX0_carrySmoke : List Cond := .code yX0_carrySmoke cX0_carrySmoke 5 none :: ((wsX0_carrySmoke_r1 ++ wsX0_carrySmoke_r2) ++ wsX50 ++ wsX00 ++ wsX90 ++ wsX80)
def wsX1_init : List Cond := .code yX1_init cX1_init 1 none :: ([.methodLink RX1 3 objectInit, .instanceMethod objectInit, .code objectInit ⟨#[0xb1]⟩ 1 none, .classLink RX1 9 RX8, .instantiable RX8 1, .initialized RX8, .fieldLink RX1 14 "MoleMaps$Crew" "kinds" "LMoleMaps$Row;", .methodLink RX1 11 yX8_init, .instanceMethod yX8_init, .code yX8_init cX8_init 2 none, .methodLink RX8 1 objectInit, .arrayClass .int, .fieldLink RX8 7 "MoleMaps$Row" "cells" "[I"] ++ wsX80 ++ wsX10)
def wsX1_isKind : List Cond := .code yX1_isKind cX1_isKind 1 (some .boolean) :: ([])
def wsX1_has : List Cond := .code yX1_has cX1_has 2 (some .boolean) :: ([.fieldLink RX1 20 "MoleMaps$Crew" "size" "I"] ++ wsX10)
def wsX1_isOf : List Cond := .code yX1_isOf cX1_isOf 4 (some .boolean) :: ([.fieldLink RX1 14 "MoleMaps$Crew" "kinds" "LMoleMaps$Row;", .methodLink RX1 24 yX8_get, .instanceMethod yX8_get, .selects RX8 yX8_get yX8_get, .initialized RX8, .code yX8_get cX8_get 2 (some .int), .fieldLink RX8 7 "MoleMaps$Row" "cells" "[I"] ++ wsX10 ++ wsX80)
def wsX1_bears : List Cond := .code yX1_bears cX1_bears 2 (some .int) :: ([.fieldLink RX1 14 "MoleMaps$Crew" "kinds" "LMoleMaps$Row;", .methodLink RX1 24 yX8_get, .instanceMethod yX8_get, .selects RX8 yX8_get yX8_get, .initialized RX8, .code yX8_get cX8_get 2 (some .int), .fieldLink RX8 7 "MoleMaps$Row" "cells" "[I"] ++ wsX10 ++ wsX80)
def wsX2_init : List Cond := .code yX2_init cX2_init 1 none :: ([.methodLink RX2 1 objectInit, .instanceMethod objectInit, .code objectInit ⟨#[0xb1]⟩ 1 none])
def wsX2_draw : List Cond := .code yX2_draw cX2_draw 2 (some .int) :: ([.constantLong RX2 9 (1103515245), .fieldLink RX2 11 "MoleMaps$Draws" "seed" "I", .constantLong RX2 15 (12345), .constantLong RX2 17 (2147483648), .constant RX2 19 (65536)] ++ wsX20)
def wsX3_init : List Cond := .code yX3_init cX3_init 1 none :: ([.methodLink RX3 3 objectInit, .instanceMethod objectInit, .code objectInit ⟨#[0xb1]⟩ 1 none, .classLink RX3 9 RX8, .instantiable RX8 1, .initialized RX8, .fieldLink RX3 14 "MoleMaps$Moment" "gas" "LMoleMaps$Row;", .fieldLink RX3 20 "MoleMaps$Moment" "place" "LMoleMaps$Row;", .methodLink RX3 11 yX8_init, .instanceMethod yX8_init, .code yX8_init cX8_init 2 none, .methodLink RX8 1 objectInit, .arrayClass .int, .fieldLink RX8 7 "MoleMaps$Row" "cells" "[I"] ++ wsX80 ++ wsX30)
def wsX3_begin : List Cond := .code yX3_begin cX3_begin 2 none :: ([.fieldLink RX3 23 "MoleMaps$Moment" "open" "I", .fieldLink RX3 27 "MoleMaps$Moment" "moon" "Z", .fieldLink RX3 14 "MoleMaps$Moment" "gas" "LMoleMaps$Row;", .fieldLink RX3 34 "MoleMaps$Moment" "out" "I", .fieldLink RX3 37 "MoleMaps$Moment" "gone" "I", .methodLink RX3 31 yX8_fill, .instanceMethod yX8_fill, .selects RX8 yX8_fill yX8_fill, .initialized RX8, .code yX8_fill cX8_fill 3 none, .fieldLink RX8 7 "MoleMaps$Row" "cells" "[I"] ++ wsX30 ++ wsX80)
def wsX8_copyFrom : List Cond := .code yX8_copyFrom cX8_copyFrom 3 none :: ([.fieldLink RX8 7 "MoleMaps$Row" "cells" "[I", .methodLink RX8 13 yX8_get, .instanceMethod yX8_get, .selects RX8 yX8_get yX8_get, .initialized RX8, .code yX8_get cX8_get 2 (some .int)] ++ wsX80)
def wsX3_copyFrom : List Cond := .code yX3_copyFrom cX3_copyFrom 2 none :: ([.fieldLink RX3 23 "MoleMaps$Moment" "open" "I", .fieldLink RX3 27 "MoleMaps$Moment" "moon" "Z", .fieldLink RX3 14 "MoleMaps$Moment" "gas" "LMoleMaps$Row;", .fieldLink RX3 20 "MoleMaps$Moment" "place" "LMoleMaps$Row;", .fieldLink RX3 34 "MoleMaps$Moment" "out" "I", .fieldLink RX3 37 "MoleMaps$Moment" "gone" "I", .methodLink RX3 40 yX8_copyFrom, .instanceMethod yX8_copyFrom, .selects RX8 yX8_copyFrom yX8_copyFrom, .initialized RX8, .code yX8_copyFrom cX8_copyFrom 3 none, .fieldLink RX8 7 "MoleMaps$Row" "cells" "[I", .methodLink RX8 13 yX8_get, .instanceMethod yX8_get, .selects RX8 yX8_get yX8_get, .code yX8_get cX8_get 2 (some .int)] ++ wsX30 ++ wsX80)
def wsX3_passMinute_r1 : List Cond := [Cond.fieldLink RX3 14 "MoleMaps$Moment" "gas" "LMoleMaps$Row;", Cond.methodLink RX3 52 Lib.Math.min.name, Cond.static Lib.Math.min.name, Cond.initialized "java/lang/Math", Cond.code Lib.Math.min.name Lib.Math.min.code 2 (some .int), Cond.fieldLink RX3 61 "MoleMaps$Crew" "size" "I", Cond.fieldLink RX3 20 "MoleMaps$Moment" "place" "LMoleMaps$Row;", Cond.fieldLink RX3 34 "MoleMaps$Moment" "out" "I", Cond.fieldLink RX3 37 "MoleMaps$Moment" "gone" "I", Cond.static yX10_bit, Cond.initialized RX10, Cond.code yX10_bit cX10_bit 2 (some .int), Cond.methodLink RX3 48 yX8_get, Cond.instanceMethod yX8_get, Cond.selects RX8 yX8_get yX8_get, Cond.initialized RX8, Cond.code yX8_get cX8_get 2 (some .int), Cond.fieldLink RX8 7 "MoleMaps$Row" "cells" "[I", Cond.methodLink RX3 57 yX8_set, Cond.instanceMethod yX8_set, Cond.selects RX8 yX8_set yX8_set, Cond.code yX8_set cX8_set 3 none, Cond.methodLink RX3 66 yX1_bears, Cond.instanceMethod yX1_bears]
def wsX3_passMinute_r2 : List Cond := [Cond.selects RX1 yX1_bears yX1_bears, Cond.initialized RX1, Cond.code yX1_bears cX1_bears 2 (some .int), Cond.fieldLink RX1 14 "MoleMaps$Crew" "kinds" "LMoleMaps$Row;", Cond.methodLink RX1 24 yX8_get]
def wsX3_passMinute : List Cond := .code yX3_passMinute cX3_passMinute 5 none :: ((wsX3_passMinute_r1 ++ wsX3_passMinute_r2) ++ wsX30 ++ wsX10 ++ wsX80)
def wsX6_init : List Cond := .code yX6_init cX6_init 1 none :: ([.methodLink RX6 3 objectInit, .instanceMethod objectInit, .code objectInit ⟨#[0xb1]⟩ 1 none])
def wsX4_init : List Cond := .code yX4_init cX4_init 1 none :: ([.methodLink RX4 3 objectInit, .instanceMethod objectInit, .code objectInit ⟨#[0xb1]⟩ 1 none, .classLink RX4 9 RX8, .instantiable RX8 1, .initialized RX8, .fieldLink RX4 14 "MoleMaps$Page" "letters" "LMoleMaps$Row;", .classLink RX4 20 RX6, .instantiable RX6 4, .initialized RX6, .fieldLink RX4 23 "MoleMaps$Page" "reader" "LMoleMaps$Reader;", .methodLink RX4 11 yX8_init, .instanceMethod yX8_init, .code yX8_init cX8_init 2 none, .methodLink RX8 1 objectInit, .arrayClass .int, .fieldLink RX8 7 "MoleMaps$Row" "cells" "[I", .instanceMethod yX6_init, .code yX6_init cX6_init 1 none, .methodLink RX6 3 objectInit] ++ wsX80 ++ wsX40 ++ wsX60)
def wsX4_byteOf : List Cond := .code yX4_byteOf cX4_byteOf 3 (some .int) :: ([.constantLong RX4 31 (255)])
def wsX4_lettersIn : List Cond := .code yX4_lettersIn cX4_lettersIn 5 (some .int) :: ([.methodLink RX4 27 yX4_byteOf, .static yX4_byteOf, .initialized RX4, .code yX4_byteOf cX4_byteOf 3 (some .int), .constantLong RX4 31 (255)])
def wsX4_append : List Cond := .code yX4_append cX4_append 5 none :: ([.fieldLink RX4 14 "MoleMaps$Page" "letters" "LMoleMaps$Row;", .fieldLink RX4 33 "MoleMaps$Page" "length" "I", .methodLink RX4 27 yX4_byteOf, .static yX4_byteOf, .initialized RX4, .code yX4_byteOf cX4_byteOf 3 (some .int), .constantLong RX4 31 (255), .methodLink RX4 37 yX8_set, .instanceMethod yX8_set, .selects RX8 yX8_set yX8_set, .initialized RX8, .code yX8_set cX8_set 3 none, .fieldLink RX8 7 "MoleMaps$Row" "cells" "[I"] ++ wsX40 ++ wsX80)
def wsX6_start : List Cond := .code yX6_start cX6_start 1 none :: ([.fieldLink RX6 11 "MoleMaps$Reader" "due" "I", .fieldLink RX6 15 "MoleMaps$Reader" "galleries" "I", .fieldLink RX6 18 "MoleMaps$Reader" "shafts" "I"] ++ wsX60)
def wsX10_isKnot : List Cond := .code yX10_isKnot cX10_isKnot 1 (some .boolean) :: ([])
def wsX6_takesBreak : List Cond := .code yX6_takesBreak cX6_takesBreak 2 (some .boolean) :: ([.fieldLink RX6 11 "MoleMaps$Reader" "due" "I", .fieldLink RX6 15 "MoleMaps$Reader" "galleries" "I"] ++ wsX60)
def wsX6_takesShaft : List Cond := .code yX6_takesShaft cX6_takesShaft 2 (some .boolean) :: ([.fieldLink RX6 18 "MoleMaps$Reader" "shafts" "I", .fieldLink RX6 11 "MoleMaps$Reader" "due" "I", .static yX10_isKnot, .initialized RX10, .code yX10_isKnot cX10_isKnot 1 (some .boolean), .static yX10_bit, .code yX10_bit cX10_bit 2 (some .int)] ++ wsX60)
def wsX6_takes : List Cond := .code yX6_takes cX6_takes 2 (some .boolean) :: ([.fieldLink RX6 11 "MoleMaps$Reader" "due" "I", .fieldLink RX6 21 "MoleMaps$Reader" "first" "I", .fieldLink RX6 15 "MoleMaps$Reader" "galleries" "I", .static yX10_isKnot, .initialized RX10, .code yX10_isKnot cX10_isKnot 1 (some .boolean), .methodLink RX6 28 yX6_takesBreak, .instanceMethod yX6_takesBreak, .selects RX6 yX6_takesBreak yX6_takesBreak, .initialized RX6, .code yX6_takesBreak cX6_takesBreak 2 (some .boolean), .methodLink RX6 31 yX6_takesShaft, .instanceMethod yX6_takesShaft, .selects RX6 yX6_takesShaft yX6_takesShaft, .code yX6_takesShaft cX6_takesShaft 2 (some .boolean), .fieldLink RX6 18 "MoleMaps$Reader" "shafts" "I", .static yX10_bit, .code yX10_bit cX10_bit 2 (some .int)] ++ wsX60)
def wsX4_firstFault_r1 : List Cond := [Cond.fieldLink RX4 23 "MoleMaps$Page" "reader" "LMoleMaps$Reader;", Cond.fieldLink RX4 33 "MoleMaps$Page" "length" "I", Cond.fieldLink RX4 14 "MoleMaps$Page" "letters" "LMoleMaps$Row;", Cond.methodLink RX4 41 yX6_start, Cond.instanceMethod yX6_start, Cond.selects RX6 yX6_start yX6_start, Cond.initialized RX6, Cond.code yX6_start cX6_start 1 none, Cond.fieldLink RX6 11 "MoleMaps$Reader" "due" "I", Cond.fieldLink RX6 15 "MoleMaps$Reader" "galleries" "I", Cond.fieldLink RX6 18 "MoleMaps$Reader" "shafts" "I", Cond.methodLink RX4 44 yX8_get, Cond.instanceMethod yX8_get, Cond.selects RX8 yX8_get yX8_get, Cond.initialized RX8, Cond.code yX8_get cX8_get 2 (some .int), Cond.fieldLink RX8 7 "MoleMaps$Row" "cells" "[I", Cond.methodLink RX4 48 yX6_takes, Cond.instanceMethod yX6_takes, Cond.selects RX6 yX6_takes yX6_takes, Cond.code yX6_takes cX6_takes 2 (some .boolean), Cond.fieldLink RX6 21 "MoleMaps$Reader" "first" "I", Cond.static yX10_isKnot, Cond.initialized RX10]
def wsX4_firstFault_r2 : List Cond := [Cond.code yX10_isKnot cX10_isKnot 1 (some .boolean), Cond.methodLink RX6 28 yX6_takesBreak, Cond.instanceMethod yX6_takesBreak, Cond.selects RX6 yX6_takesBreak yX6_takesBreak, Cond.code yX6_takesBreak cX6_takesBreak 2 (some .boolean), Cond.methodLink RX6 31 yX6_takesShaft, Cond.instanceMethod yX6_takesShaft, Cond.selects RX6 yX6_takesShaft yX6_takesShaft, Cond.code yX6_takesShaft cX6_takesShaft 2 (some .boolean), Cond.static yX10_bit, Cond.code yX10_bit cX10_bit 2 (some .int)]
def wsX4_firstFault : List Cond := .code yX4_firstFault cX4_firstFault 2 (some .int) :: ((wsX4_firstFault_r1 ++ wsX4_firstFault_r2) ++ wsX40 ++ wsX60 ++ wsX80)
def wsX6_mayEnd : List Cond := .code yX6_mayEnd cX6_mayEnd 1 (some .boolean) :: ([.fieldLink RX6 11 "MoleMaps$Reader" "due" "I", .fieldLink RX6 18 "MoleMaps$Reader" "shafts" "I", .methodLink RX6 34 yJ6_bitCount_0f7a4, .static yJ6_bitCount_0f7a4, .initialized RJ6, .code yJ6_bitCount_0f7a4 cJ6_bitCount_0f7a4 1 (some .int), .constant RJ6 265 (1431655765), .constant RJ6 266 (858993459), .constant RJ6 267 (252645135)] ++ wsX60)
def wsX4_isMine_r1 : List Cond := [Cond.fieldLink RX4 33 "MoleMaps$Page" "length" "I", Cond.fieldLink RX4 23 "MoleMaps$Page" "reader" "LMoleMaps$Reader;", Cond.methodLink RX4 52 yX4_firstFault, Cond.instanceMethod yX4_firstFault, Cond.selects RX4 yX4_firstFault yX4_firstFault, Cond.initialized RX4, Cond.code yX4_firstFault cX4_firstFault 2 (some .int), Cond.fieldLink RX4 14 "MoleMaps$Page" "letters" "LMoleMaps$Row;", Cond.methodLink RX4 41 yX6_start, Cond.instanceMethod yX6_start, Cond.selects RX6 yX6_start yX6_start, Cond.initialized RX6, Cond.code yX6_start cX6_start 1 none, Cond.fieldLink RX6 11 "MoleMaps$Reader" "due" "I", Cond.fieldLink RX6 15 "MoleMaps$Reader" "galleries" "I", Cond.fieldLink RX6 18 "MoleMaps$Reader" "shafts" "I", Cond.methodLink RX4 44 yX8_get, Cond.instanceMethod yX8_get, Cond.selects RX8 yX8_get yX8_get, Cond.initialized RX8, Cond.code yX8_get cX8_get 2 (some .int), Cond.fieldLink RX8 7 "MoleMaps$Row" "cells" "[I", Cond.methodLink RX4 48 yX6_takes, Cond.instanceMethod yX6_takes]
def wsX4_isMine_r2 : List Cond := [Cond.selects RX6 yX6_takes yX6_takes, Cond.code yX6_takes cX6_takes 2 (some .boolean), Cond.fieldLink RX6 21 "MoleMaps$Reader" "first" "I", Cond.static yX10_isKnot, Cond.initialized RX10, Cond.code yX10_isKnot cX10_isKnot 1 (some .boolean), Cond.methodLink RX6 28 yX6_takesBreak, Cond.instanceMethod yX6_takesBreak, Cond.selects RX6 yX6_takesBreak yX6_takesBreak, Cond.code yX6_takesBreak cX6_takesBreak 2 (some .boolean), Cond.methodLink RX6 31 yX6_takesShaft, Cond.instanceMethod yX6_takesShaft, Cond.selects RX6 yX6_takesShaft yX6_takesShaft, Cond.code yX6_takesShaft cX6_takesShaft 2 (some .boolean), Cond.static yX10_bit, Cond.code yX10_bit cX10_bit 2 (some .int), Cond.methodLink RX4 56 yX6_mayEnd, Cond.instanceMethod yX6_mayEnd, Cond.selects RX6 yX6_mayEnd yX6_mayEnd, Cond.code yX6_mayEnd cX6_mayEnd 1 (some .boolean), Cond.methodLink RX6 34 yJ6_bitCount_0f7a4, Cond.static yJ6_bitCount_0f7a4, Cond.initialized RJ6, Cond.code yJ6_bitCount_0f7a4 cJ6_bitCount_0f7a4 1 (some .int)]
def wsX4_isMine_r3 : List Cond := [Cond.constant RJ6 265 (1431655765), Cond.constant RJ6 266 (858993459), Cond.constant RJ6 267 (252645135)]
def wsX4_isMine : List Cond := .code yX4_isMine cX4_isMine 1 (some .boolean) :: ((wsX4_isMine_r1 ++ (wsX4_isMine_r2 ++ wsX4_isMine_r3)) ++ wsX40 ++ wsX60 ++ wsX80)
def wsX4_digit : List Cond := .code yX4_digit cX4_digit 2 (some .int) :: ([.fieldLink RX4 14 "MoleMaps$Page" "letters" "LMoleMaps$Row;", .methodLink RX4 44 yX8_get, .instanceMethod yX8_get, .selects RX8 yX8_get yX8_get, .initialized RX8, .code yX8_get cX8_get 2 (some .int), .fieldLink RX8 7 "MoleMaps$Row" "cells" "[I"] ++ wsX40 ++ wsX80)
def wsX5_init : List Cond := .code yX5_init cX5_init 1 none :: ([.methodLink RX5 3 objectInit, .instanceMethod objectInit, .code objectInit ⟨#[0xb1]⟩ 1 none, .classLink RX5 9 RX8, .instantiable RX8 1, .initialized RX8, .fieldLink RX5 14 "MoleMaps$Plan" "one" "LMoleMaps$Row;", .fieldLink RX5 20 "MoleMaps$Plan" "two" "LMoleMaps$Row;", .fieldLink RX5 23 "MoleMaps$Plan" "length" "LMoleMaps$Row;", .fieldLink RX5 26 "MoleMaps$Plan" "draught" "LMoleMaps$Row;", .methodLink RX5 11 yX8_init, .instanceMethod yX8_init, .code yX8_init cX8_init 2 none, .methodLink RX8 1 objectInit, .arrayClass .int, .fieldLink RX8 7 "MoleMaps$Row" "cells" "[I"] ++ wsX80 ++ wsX50)
def wsX5_isRead : List Cond := .code yX5_isRead cX5_isRead 1 (some .boolean) :: ([.fieldLink RX5 29 "MoleMaps$Plan" "galleries" "I"] ++ wsX50)
def wsX5_hasGallery : List Cond := .code yX5_hasGallery cX5_hasGallery 2 (some .boolean) :: ([.fieldLink RX5 29 "MoleMaps$Plan" "galleries" "I"] ++ wsX50)
def wsX5_isShaft : List Cond := .code yX5_isShaft cX5_isShaft 2 (some .boolean) :: ([.fieldLink RX5 33 "MoleMaps$Plan" "shafts" "I", .static yX10_bit, .initialized RX10, .code yX10_bit cX10_bit 2 (some .int)] ++ wsX50)
def wsX5_allGalleries : List Cond := .code yX5_allGalleries cX5_allGalleries 1 (some .int) :: ([.fieldLink RX5 29 "MoleMaps$Plan" "galleries" "I"] ++ wsX50)
def wsX5_readShafts : List Cond := .code yX5_readShafts cX5_readShafts 4 none :: ([.fieldLink RX5 26 "MoleMaps$Plan" "draught" "LMoleMaps$Row;", .fieldLink RX5 33 "MoleMaps$Plan" "shafts" "I", .fieldLink RX5 66 "MoleMaps$Page" "length" "I", .methodLink RX5 63 yX8_fill, .instanceMethod yX8_fill, .selects RX8 yX8_fill yX8_fill, .initialized RX8, .code yX8_fill cX8_fill 3 none, .fieldLink RX8 7 "MoleMaps$Row" "cells" "[I", .methodLink RX5 52 yX4_digit, .instanceMethod yX4_digit, .selects RX4 yX4_digit yX4_digit, .initialized RX4, .code yX4_digit cX4_digit 2 (some .int), .fieldLink RX4 14 "MoleMaps$Page" "letters" "LMoleMaps$Row;", .methodLink RX4 44 yX8_get, .instanceMethod yX8_get, .selects RX8 yX8_get yX8_get, .code yX8_get cX8_get 2 (some .int), .methodLink RX5 55 yX8_set, .instanceMethod yX8_set, .selects RX8 yX8_set yX8_set, .code yX8_set cX8_set 3 none] ++ wsX50 ++ wsX40 ++ wsX80)
def wsX5_readFrom_r1 : List Cond := [Cond.fieldLink RX5 29 "MoleMaps$Plan" "galleries" "I", Cond.fieldLink RX5 40 "MoleMaps$Plan" "doors" "I", Cond.fieldLink RX5 43 "MoleMaps$Page" "letters" "LMoleMaps$Row;", Cond.fieldLink RX5 14 "MoleMaps$Plan" "one" "LMoleMaps$Row;", Cond.fieldLink RX5 20 "MoleMaps$Plan" "two" "LMoleMaps$Row;", Cond.fieldLink RX5 23 "MoleMaps$Plan" "length" "LMoleMaps$Row;", Cond.methodLink RX5 48 yX8_get, Cond.instanceMethod yX8_get, Cond.selects RX8 yX8_get yX8_get, Cond.initialized RX8, Cond.code yX8_get cX8_get 2 (some .int), Cond.fieldLink RX8 7 "MoleMaps$Row" "cells" "[I", Cond.methodLink RX5 52 yX4_digit, Cond.instanceMethod yX4_digit, Cond.selects RX4 yX4_digit yX4_digit, Cond.initialized RX4, Cond.code yX4_digit cX4_digit 2 (some .int), Cond.fieldLink RX4 14 "MoleMaps$Page" "letters" "LMoleMaps$Row;", Cond.methodLink RX4 44 yX8_get, Cond.methodLink RX5 55 yX8_set, Cond.instanceMethod yX8_set, Cond.selects RX8 yX8_set yX8_set, Cond.code yX8_set cX8_set 3 none, Cond.methodLink RX5 59 yX5_readShafts]
def wsX5_readFrom_r2 : List Cond := [Cond.instanceMethod yX5_readShafts, Cond.selects RX5 yX5_readShafts yX5_readShafts, Cond.initialized RX5, Cond.code yX5_readShafts cX5_readShafts 4 none, Cond.fieldLink RX5 26 "MoleMaps$Plan" "draught" "LMoleMaps$Row;", Cond.fieldLink RX5 33 "MoleMaps$Plan" "shafts" "I", Cond.fieldLink RX5 66 "MoleMaps$Page" "length" "I", Cond.methodLink RX5 63 yX8_fill, Cond.instanceMethod yX8_fill, Cond.selects RX8 yX8_fill yX8_fill, Cond.code yX8_fill cX8_fill 3 none]
def wsX5_readFrom : List Cond := .code yX5_readFrom cX5_readFrom 4 none :: ((wsX5_readFrom_r1 ++ wsX5_readFrom_r2) ++ wsX50 ++ wsX40 ++ wsX80)
def wsX5_isAt : List Cond := .code yX5_isAt cX5_isAt 3 (some .boolean) :: ([.fieldLink RX5 14 "MoleMaps$Plan" "one" "LMoleMaps$Row;", .fieldLink RX5 20 "MoleMaps$Plan" "two" "LMoleMaps$Row;", .methodLink RX5 48 yX8_get, .instanceMethod yX8_get, .selects RX8 yX8_get yX8_get, .initialized RX8, .code yX8_get cX8_get 2 (some .int), .fieldLink RX8 7 "MoleMaps$Row" "cells" "[I"] ++ wsX50 ++ wsX80)
def wsX5_galleriesAt : List Cond := .code yX5_galleriesAt cX5_galleriesAt 5 (some .int) :: ([.fieldLink RX5 29 "MoleMaps$Plan" "galleries" "I", .methodLink RX5 68 yX5_isAt, .instanceMethod yX5_isAt, .selects RX5 yX5_isAt yX5_isAt, .initialized RX5, .code yX5_isAt cX5_isAt 3 (some .boolean), .fieldLink RX5 14 "MoleMaps$Plan" "one" "LMoleMaps$Row;", .fieldLink RX5 20 "MoleMaps$Plan" "two" "LMoleMaps$Row;", .methodLink RX5 48 yX8_get, .instanceMethod yX8_get, .selects RX8 yX8_get yX8_get, .initialized RX8, .code yX8_get cX8_get 2 (some .int), .fieldLink RX8 7 "MoleMaps$Row" "cells" "[I"] ++ wsX50 ++ wsX80)
def wsX9_init : List Cond := .code yX9_init cX9_init 1 none :: ([.methodLink RX9 3 objectInit, .instanceMethod objectInit, .code objectInit ⟨#[0xb1]⟩ 1 none, .classLink RX9 9 RX8, .instantiable RX8 1, .initialized RX8, .fieldLink RX9 14 "MoleMaps$Table" "lengths" "LMoleMaps$Row;", .methodLink RX9 11 yX8_init, .instanceMethod yX8_init, .code yX8_init cX8_init 2 none, .methodLink RX8 1 objectInit, .arrayClass .int, .fieldLink RX8 7 "MoleMaps$Row" "cells" "[I"] ++ wsX80 ++ wsX90)
def wsX7_init : List Cond := .code yX7_init cX7_init 1 none :: ([.methodLink RX7 3 objectInit, .instanceMethod objectInit, .code objectInit ⟨#[0xb1]⟩ 1 none, .classLink RX7 9 RX8, .instantiable RX8 1, .initialized RX8, .fieldLink RX7 14 "MoleMaps$Rescue" "best" "LMoleMaps$Row;", .fieldLink RX7 20 "MoleMaps$Rescue" "order" "LMoleMaps$Row;", .classLink RX7 23 RX9, .instantiable RX9 1, .initialized RX9, .fieldLink RX7 26 "MoleMaps$Rescue" "ways" "LMoleMaps$Table;", .methodLink RX7 11 yX8_init, .instanceMethod yX8_init, .code yX8_init cX8_init 2 none, .methodLink RX8 1 objectInit, .arrayClass .int, .fieldLink RX8 7 "MoleMaps$Row" "cells" "[I", .instanceMethod yX9_init, .code yX9_init cX9_init 1 none, .methodLink RX9 3 objectInit, .classLink RX9 9 RX8, .fieldLink RX9 14 "MoleMaps$Table" "lengths" "LMoleMaps$Row;", .methodLink RX9 11 yX8_init] ++ wsX80 ++ wsX70 ++ wsX90)
def wsX8_sum : List Cond := .code yX8_sum cX8_sum 3 (some .int) :: ([.fieldLink RX8 7 "MoleMaps$Row" "cells" "[I"] ++ wsX80)
def wsX10_init_r1 : List Cond := [Cond.methodLink RX10 1 objectInit, Cond.instanceMethod objectInit, Cond.code objectInit ⟨#[0xb1]⟩ 1 none, Cond.classLink RX10 7 RX4, Cond.instantiable RX4 3, Cond.initialized RX4, Cond.fieldLink RX10 10 "MoleMaps" "page" "LMoleMaps$Page;", Cond.classLink RX10 16 RX5, Cond.instantiable RX5 7, Cond.initialized RX5, Cond.fieldLink RX10 19 "MoleMaps" "plan" "LMoleMaps$Plan;", Cond.classLink RX10 23 RX0, Cond.instantiable RX0 4, Cond.initialized RX0, Cond.fieldLink RX10 26 "MoleMaps" "air" "LMoleMaps$Air;", Cond.fieldLink RX10 30 "MoleMaps" "trial" "LMoleMaps$Air;", Cond.classLink RX10 33 RX9, Cond.instantiable RX9 1, Cond.initialized RX9, Cond.fieldLink RX10 36 "MoleMaps" "smoke" "LMoleMaps$Table;", Cond.classLink RX10 40 RX1, Cond.instantiable RX1 2, Cond.initialized RX1, Cond.fieldLink RX10 43 "MoleMaps" "crew" "LMoleMaps$Crew;"]
def wsX10_init_r2 : List Cond := [Cond.classLink RX10 47 RX3, Cond.instantiable RX3 6, Cond.initialized RX3, Cond.fieldLink RX10 50 "MoleMaps" "now" "LMoleMaps$Moment;", Cond.fieldLink RX10 54 "MoleMaps" "kept" "LMoleMaps$Moment;", Cond.fieldLink RX10 57 "MoleMaps" "dream" "LMoleMaps$Moment;", Cond.classLink RX10 60 RX2, Cond.instantiable RX2 1, Cond.initialized RX2, Cond.fieldLink RX10 63 "MoleMaps" "draws" "LMoleMaps$Draws;", Cond.classLink RX10 67 RX7, Cond.instantiable RX7 5, Cond.initialized RX7, Cond.fieldLink RX10 70 "MoleMaps" "rescuers" "LMoleMaps$Rescue;", Cond.fieldLink RX10 74 "MoleMaps" "keptMine" "I", Cond.instanceMethod yX4_init, Cond.code yX4_init cX4_init 1 none, Cond.methodLink RX4 3 objectInit, Cond.classLink RX4 9 RX8, Cond.instantiable RX8 1, Cond.initialized RX8, Cond.fieldLink RX4 14 "MoleMaps$Page" "letters" "LMoleMaps$Row;", Cond.classLink RX4 20 RX6, Cond.instantiable RX6 4]
def wsX10_init_r3 : List Cond := [Cond.initialized RX6, Cond.fieldLink RX4 23 "MoleMaps$Page" "reader" "LMoleMaps$Reader;", Cond.methodLink RX4 11 yX8_init, Cond.instanceMethod yX8_init, Cond.code yX8_init cX8_init 2 none, Cond.methodLink RX8 1 objectInit, Cond.arrayClass .int, Cond.fieldLink RX8 7 "MoleMaps$Row" "cells" "[I", Cond.instanceMethod yX6_init, Cond.code yX6_init cX6_init 1 none, Cond.methodLink RX6 3 objectInit, Cond.instanceMethod yX5_init, Cond.code yX5_init cX5_init 1 none, Cond.methodLink RX5 3 objectInit, Cond.classLink RX5 9 RX8, Cond.fieldLink RX5 14 "MoleMaps$Plan" "one" "LMoleMaps$Row;", Cond.fieldLink RX5 20 "MoleMaps$Plan" "two" "LMoleMaps$Row;", Cond.fieldLink RX5 23 "MoleMaps$Plan" "length" "LMoleMaps$Row;", Cond.fieldLink RX5 26 "MoleMaps$Plan" "draught" "LMoleMaps$Row;", Cond.methodLink RX5 11 yX8_init, Cond.instanceMethod yX0_init, Cond.code yX0_init cX0_init 1 none, Cond.methodLink RX0 3 objectInit, Cond.classLink RX0 9 RX8]
def wsX10_init_r4 : List Cond := [Cond.fieldLink RX0 14 "MoleMaps$Air" "height" "LMoleMaps$Row;", Cond.fieldLink RX0 20 "MoleMaps$Air" "into" "LMoleMaps$Row;", Cond.fieldLink RX0 23 "MoleMaps$Air" "nearest" "LMoleMaps$Row;", Cond.methodLink RX0 11 yX8_init, Cond.instanceMethod yX9_init, Cond.code yX9_init cX9_init 1 none, Cond.methodLink RX9 3 objectInit, Cond.classLink RX9 9 RX8, Cond.fieldLink RX9 14 "MoleMaps$Table" "lengths" "LMoleMaps$Row;", Cond.methodLink RX9 11 yX8_init, Cond.instanceMethod yX1_init, Cond.code yX1_init cX1_init 1 none, Cond.methodLink RX1 3 objectInit, Cond.classLink RX1 9 RX8, Cond.fieldLink RX1 14 "MoleMaps$Crew" "kinds" "LMoleMaps$Row;", Cond.methodLink RX1 11 yX8_init, Cond.instanceMethod yX3_init, Cond.code yX3_init cX3_init 1 none, Cond.methodLink RX3 3 objectInit, Cond.classLink RX3 9 RX8, Cond.fieldLink RX3 14 "MoleMaps$Moment" "gas" "LMoleMaps$Row;", Cond.fieldLink RX3 20 "MoleMaps$Moment" "place" "LMoleMaps$Row;", Cond.methodLink RX3 11 yX8_init, Cond.instanceMethod yX2_init]
def wsX10_init_r5 : List Cond := [Cond.code yX2_init cX2_init 1 none, Cond.methodLink RX2 1 objectInit, Cond.instanceMethod yX7_init, Cond.code yX7_init cX7_init 1 none, Cond.methodLink RX7 3 objectInit, Cond.classLink RX7 9 RX8, Cond.fieldLink RX7 14 "MoleMaps$Rescue" "best" "LMoleMaps$Row;", Cond.fieldLink RX7 20 "MoleMaps$Rescue" "order" "LMoleMaps$Row;", Cond.classLink RX7 23 RX9, Cond.fieldLink RX7 26 "MoleMaps$Rescue" "ways" "LMoleMaps$Table;", Cond.methodLink RX7 11 yX8_init]
def wsX10_init : List Cond := .code yX10_init cX10_init 1 none :: ((wsX10_init_r1 ++ (wsX10_init_r2 ++ (wsX10_init_r3 ++ (wsX10_init_r4 ++ wsX10_init_r5)))) ++ wsX40 ++ wsX100 ++ wsX50 ++ wsX00 ++ wsX90 ++ wsX10 ++ wsX30 ++ wsX20 ++ wsX70 ++ wsX80 ++ wsX60)
def wsX10_letters : List Cond := .code yX10_letters cX10_letters 4 (some .int) :: ([.fieldLink RX10 10 "MoleMaps" "page" "LMoleMaps$Page;", .fieldLink RX10 82 "MoleMaps$Page" "length" "I", .methodLink RX10 78 yX4_lettersIn, .static yX4_lettersIn, .initialized RX4, .code yX4_lettersIn cX4_lettersIn 5 (some .int), .methodLink RX4 27 yX4_byteOf, .static yX4_byteOf, .code yX4_byteOf cX4_byteOf 3 (some .int), .constantLong RX4 31 (255), .methodLink RX10 85 yX4_append, .instanceMethod yX4_append, .selects RX4 yX4_append yX4_append, .code yX4_append cX4_append 5 none, .fieldLink RX4 14 "MoleMaps$Page" "letters" "LMoleMaps$Row;", .fieldLink RX4 33 "MoleMaps$Page" "length" "I", .methodLink RX4 37 yX8_set, .instanceMethod yX8_set, .selects RX8 yX8_set yX8_set, .initialized RX8, .code yX8_set cX8_set 3 none, .fieldLink RX8 7 "MoleMaps$Row" "cells" "[I"] ++ wsX100 ++ wsX40 ++ wsX80)
def wsX10_fault_r1 : List Cond := [Cond.fieldLink RX10 10 "MoleMaps" "page" "LMoleMaps$Page;", Cond.methodLink RX10 89 yX4_firstFault, Cond.instanceMethod yX4_firstFault, Cond.selects RX4 yX4_firstFault yX4_firstFault, Cond.initialized RX4, Cond.code yX4_firstFault cX4_firstFault 2 (some .int), Cond.fieldLink RX4 23 "MoleMaps$Page" "reader" "LMoleMaps$Reader;", Cond.fieldLink RX4 33 "MoleMaps$Page" "length" "I", Cond.fieldLink RX4 14 "MoleMaps$Page" "letters" "LMoleMaps$Row;", Cond.methodLink RX4 41 yX6_start, Cond.instanceMethod yX6_start, Cond.selects RX6 yX6_start yX6_start, Cond.initialized RX6, Cond.code yX6_start cX6_start 1 none, Cond.fieldLink RX6 11 "MoleMaps$Reader" "due" "I", Cond.fieldLink RX6 15 "MoleMaps$Reader" "galleries" "I", Cond.fieldLink RX6 18 "MoleMaps$Reader" "shafts" "I", Cond.methodLink RX4 44 yX8_get, Cond.instanceMethod yX8_get, Cond.selects RX8 yX8_get yX8_get, Cond.initialized RX8, Cond.code yX8_get cX8_get 2 (some .int), Cond.fieldLink RX8 7 "MoleMaps$Row" "cells" "[I", Cond.methodLink RX4 48 yX6_takes]
def wsX10_fault_r2 : List Cond := [Cond.instanceMethod yX6_takes, Cond.selects RX6 yX6_takes yX6_takes, Cond.code yX6_takes cX6_takes 2 (some .boolean), Cond.fieldLink RX6 21 "MoleMaps$Reader" "first" "I", Cond.static yX10_isKnot, Cond.initialized RX10, Cond.code yX10_isKnot cX10_isKnot 1 (some .boolean), Cond.methodLink RX6 28 yX6_takesBreak, Cond.instanceMethod yX6_takesBreak, Cond.selects RX6 yX6_takesBreak yX6_takesBreak, Cond.code yX6_takesBreak cX6_takesBreak 2 (some .boolean), Cond.methodLink RX6 31 yX6_takesShaft, Cond.instanceMethod yX6_takesShaft, Cond.selects RX6 yX6_takesShaft yX6_takesShaft, Cond.code yX6_takesShaft cX6_takesShaft 2 (some .boolean), Cond.static yX10_bit, Cond.code yX10_bit cX10_bit 2 (some .int)]
def wsX10_fault : List Cond := .code yX10_fault cX10_fault 1 (some .int) :: ((wsX10_fault_r1 ++ wsX10_fault_r2) ++ wsX100 ++ wsX40 ++ wsX60 ++ wsX80)
def wsX10_windChanges_r1 : List Cond := [Cond.fieldLink RX10 26 "MoleMaps" "air" "LMoleMaps$Air;", Cond.fieldLink RX10 19 "MoleMaps" "plan" "LMoleMaps$Plan;", Cond.fieldLink RX10 50 "MoleMaps" "now" "LMoleMaps$Moment;", Cond.fieldLink RX10 146 "MoleMaps$Moment" "open" "I", Cond.fieldLink RX10 170 "MoleMaps$Moment" "moon" "Z", Cond.fieldLink RX10 36 "MoleMaps" "smoke" "LMoleMaps$Table;", Cond.methodLink RX10 305 yX0_blow, Cond.instanceMethod yX0_blow, Cond.selects RX0 yX0_blow yX0_blow, Cond.initialized RX0, Cond.code yX0_blow cX0_blow 5 none, Cond.fieldLink RX0 14 "MoleMaps$Air" "height" "LMoleMaps$Row;", Cond.fieldLink RX0 23 "MoleMaps$Air" "nearest" "LMoleMaps$Row;", Cond.methodLink RX0 26 yX0_findNearest, Cond.instanceMethod yX0_findNearest, Cond.selects RX0 yX0_findNearest yX0_findNearest, Cond.code yX0_findNearest cX0_findNearest 7 none, Cond.fieldLink RX0 45 "MoleMaps$Plan" "shafts" "I", Cond.fieldLink RX0 51 "MoleMaps$Plan" "galleries" "I", Cond.fieldLink RX0 58 "MoleMaps$Plan" "one" "LMoleMaps$Row;", Cond.fieldLink RX0 61 "MoleMaps$Plan" "two" "LMoleMaps$Row;", Cond.methodLink RX0 38 yX8_set, Cond.instanceMethod yX8_set, Cond.selects RX8 yX8_set yX8_set]
def wsX10_windChanges_r2 : List Cond := [Cond.initialized RX8, Cond.code yX8_set cX8_set 3 none, Cond.fieldLink RX8 7 "MoleMaps$Row" "cells" "[I", Cond.static yX10_bit, Cond.initialized RX10, Cond.code yX10_bit cX10_bit 2 (some .int), Cond.methodLink RX0 30 yX8_get, Cond.instanceMethod yX8_get, Cond.selects RX8 yX8_get yX8_get, Cond.code yX8_get cX8_get 2 (some .int), Cond.methodLink RX0 64 yX0_spread, Cond.instanceMethod yX0_spread, Cond.selects RX0 yX0_spread yX0_spread, Cond.code yX0_spread cX0_spread 4 (some .int), Cond.methodLink RX0 34 yX0_heightOf, Cond.static yX0_heightOf, Cond.code yX0_heightOf cX0_heightOf 6 (some .int), Cond.methodLink RX0 68 yJ6_bitCount_0f7a4, Cond.static yJ6_bitCount_0f7a4, Cond.initialized RJ6, Cond.code yJ6_bitCount_0f7a4 cJ6_bitCount_0f7a4 1 (some .int), Cond.constant RJ6 265 (1431655765), Cond.constant RJ6 266 (858993459), Cond.constant RJ6 267 (252645135)]
def wsX10_windChanges_r3 : List Cond := [Cond.methodLink RX0 73 yX5_shaftHeight, Cond.instanceMethod yX5_shaftHeight, Cond.selects RX5 yX5_shaftHeight yX5_shaftHeight, Cond.initialized RX5, Cond.code yX5_shaftHeight cX5_shaftHeight 4 (some .int), Cond.fieldLink RX5 26 "MoleMaps$Plan" "draught" "LMoleMaps$Row;", Cond.methodLink RX5 48 yX8_get, Cond.methodLink RX0 42 yX0_findFlows, Cond.instanceMethod yX0_findFlows, Cond.selects RX0 yX0_findFlows yX0_findFlows, Cond.code yX0_findFlows cX0_findFlows 7 none, Cond.fieldLink RX0 77 "MoleMaps$Air" "breathing" "I", Cond.fieldLink RX0 20 "MoleMaps$Air" "into" "LMoleMaps$Row;", Cond.methodLink RX0 80 yX0_lower, Cond.instanceMethod yX0_lower, Cond.selects RX0 yX0_lower yX0_lower, Cond.code yX0_lower cX0_lower 5 (some .int), Cond.methodLink RX10 309 yX0_carrySmoke, Cond.instanceMethod yX0_carrySmoke, Cond.selects RX0 yX0_carrySmoke yX0_carrySmoke, Cond.code yX0_carrySmoke cX0_carrySmoke 5 none, Cond.fieldLink RX0 91 "MoleMaps$Plan" "length" "LMoleMaps$Row;", Cond.methodLink RX0 83 yX9_clear, Cond.instanceMethod yX9_clear]
def wsX10_windChanges_r4 : List Cond := [Cond.selects RX9 yX9_clear yX9_clear, Cond.initialized RX9, Cond.code yX9_clear cX9_clear 2 none, Cond.fieldLink RX9 14 "MoleMaps$Table" "lengths" "LMoleMaps$Row;", Cond.methodLink RX9 20 yX8_fill, Cond.instanceMethod yX8_fill, Cond.selects RX8 yX8_fill yX8_fill, Cond.code yX8_fill cX8_fill 3 none, Cond.methodLink RX9 23 yX8_set, Cond.methodLink RX0 88 yX5_otherEnd, Cond.instanceMethod yX5_otherEnd, Cond.selects RX5 yX5_otherEnd yX5_otherEnd, Cond.code yX5_otherEnd cX5_otherEnd 3 (some .int), Cond.fieldLink RX5 14 "MoleMaps$Plan" "one" "LMoleMaps$Row;", Cond.fieldLink RX5 20 "MoleMaps$Plan" "two" "LMoleMaps$Row;", Cond.methodLink RX0 94 yX9_link, Cond.instanceMethod yX9_link, Cond.selects RX9 yX9_link yX9_link, Cond.code yX9_link cX9_link 5 none, Cond.methodLink RX9 31 yX9_between, Cond.instanceMethod yX9_between, Cond.selects RX9 yX9_between yX9_between, Cond.code yX9_between cX9_between 3 (some .int), Cond.methodLink RX9 27 yX8_get]
def wsX10_windChanges_r5 : List Cond := [Cond.methodLink RX0 98 yX9_joinWays, Cond.instanceMethod yX9_joinWays, Cond.selects RX9 yX9_joinWays yX9_joinWays, Cond.code yX9_joinWays cX9_joinWays 6 none, Cond.methodLink RX9 35 yX9_link]
def wsX10_windChanges : List Cond := .code yX10_windChanges cX10_windChanges 1 none :: ((wsX10_windChanges_r1 ++ (wsX10_windChanges_r2 ++ (wsX10_windChanges_r3 ++ (wsX10_windChanges_r4 ++ wsX10_windChanges_r5)))) ++ wsX100 ++ wsX30 ++ wsX00 ++ wsX50 ++ wsX80 ++ wsX90)
def wsX10_mine_r1 : List Cond := [Cond.fieldLink RX10 10 "MoleMaps" "page" "LMoleMaps$Page;", Cond.fieldLink RX10 19 "MoleMaps" "plan" "LMoleMaps$Plan;", Cond.fieldLink RX10 82 "MoleMaps$Page" "length" "I", Cond.fieldLink RX10 43 "MoleMaps" "crew" "LMoleMaps$Crew;", Cond.fieldLink RX10 101 "MoleMaps$Crew" "size" "I", Cond.fieldLink RX10 50 "MoleMaps" "now" "LMoleMaps$Moment;", Cond.fieldLink RX10 111 "MoleMaps" "minesRead" "I", Cond.fieldLink RX10 117 "MoleMaps$Plan" "galleries" "I", Cond.methodLink RX10 93 yX4_isMine, Cond.instanceMethod yX4_isMine, Cond.selects RX4 yX4_isMine yX4_isMine, Cond.initialized RX4, Cond.code yX4_isMine cX4_isMine 1 (some .boolean), Cond.fieldLink RX4 33 "MoleMaps$Page" "length" "I", Cond.fieldLink RX4 23 "MoleMaps$Page" "reader" "LMoleMaps$Reader;", Cond.methodLink RX4 52 yX4_firstFault, Cond.instanceMethod yX4_firstFault, Cond.selects RX4 yX4_firstFault yX4_firstFault, Cond.code yX4_firstFault cX4_firstFault 2 (some .int), Cond.fieldLink RX4 14 "MoleMaps$Page" "letters" "LMoleMaps$Row;", Cond.methodLink RX4 41 yX6_start, Cond.instanceMethod yX6_start, Cond.selects RX6 yX6_start yX6_start, Cond.initialized RX6]
def wsX10_mine_r2 : List Cond := [Cond.code yX6_start cX6_start 1 none, Cond.fieldLink RX6 11 "MoleMaps$Reader" "due" "I", Cond.fieldLink RX6 15 "MoleMaps$Reader" "galleries" "I", Cond.fieldLink RX6 18 "MoleMaps$Reader" "shafts" "I", Cond.methodLink RX4 44 yX8_get, Cond.instanceMethod yX8_get, Cond.selects RX8 yX8_get yX8_get, Cond.initialized RX8, Cond.code yX8_get cX8_get 2 (some .int), Cond.fieldLink RX8 7 "MoleMaps$Row" "cells" "[I", Cond.methodLink RX4 48 yX6_takes, Cond.instanceMethod yX6_takes, Cond.selects RX6 yX6_takes yX6_takes, Cond.code yX6_takes cX6_takes 2 (some .boolean), Cond.fieldLink RX6 21 "MoleMaps$Reader" "first" "I", Cond.static yX10_isKnot, Cond.initialized RX10, Cond.code yX10_isKnot cX10_isKnot 1 (some .boolean), Cond.methodLink RX6 28 yX6_takesBreak, Cond.instanceMethod yX6_takesBreak, Cond.selects RX6 yX6_takesBreak yX6_takesBreak, Cond.code yX6_takesBreak cX6_takesBreak 2 (some .boolean), Cond.methodLink RX6 31 yX6_takesShaft, Cond.instanceMethod yX6_takesShaft]
def wsX10_mine_r3 : List Cond := [Cond.selects RX6 yX6_takesShaft yX6_takesShaft, Cond.code yX6_takesShaft cX6_takesShaft 2 (some .boolean), Cond.static yX10_bit, Cond.code yX10_bit cX10_bit 2 (some .int), Cond.methodLink RX4 56 yX6_mayEnd, Cond.instanceMethod yX6_mayEnd, Cond.selects RX6 yX6_mayEnd yX6_mayEnd, Cond.code yX6_mayEnd cX6_mayEnd 1 (some .boolean), Cond.methodLink RX6 34 yJ6_bitCount_0f7a4, Cond.static yJ6_bitCount_0f7a4, Cond.initialized RJ6, Cond.code yJ6_bitCount_0f7a4 cJ6_bitCount_0f7a4 1 (some .int), Cond.constant RJ6 265 (1431655765), Cond.constant RJ6 266 (858993459), Cond.constant RJ6 267 (252645135), Cond.methodLink RX10 97 yX5_readFrom, Cond.instanceMethod yX5_readFrom, Cond.selects RX5 yX5_readFrom yX5_readFrom, Cond.initialized RX5, Cond.code yX5_readFrom cX5_readFrom 4 none, Cond.fieldLink RX5 29 "MoleMaps$Plan" "galleries" "I", Cond.fieldLink RX5 40 "MoleMaps$Plan" "doors" "I", Cond.fieldLink RX5 43 "MoleMaps$Page" "letters" "LMoleMaps$Row;", Cond.fieldLink RX5 14 "MoleMaps$Plan" "one" "LMoleMaps$Row;"]
def wsX10_mine_r4 : List Cond := [Cond.fieldLink RX5 20 "MoleMaps$Plan" "two" "LMoleMaps$Row;", Cond.fieldLink RX5 23 "MoleMaps$Plan" "length" "LMoleMaps$Row;", Cond.methodLink RX5 48 yX8_get, Cond.methodLink RX5 52 yX4_digit, Cond.instanceMethod yX4_digit, Cond.selects RX4 yX4_digit yX4_digit, Cond.code yX4_digit cX4_digit 2 (some .int), Cond.methodLink RX5 55 yX8_set, Cond.instanceMethod yX8_set, Cond.selects RX8 yX8_set yX8_set, Cond.code yX8_set cX8_set 3 none, Cond.methodLink RX5 59 yX5_readShafts, Cond.instanceMethod yX5_readShafts, Cond.selects RX5 yX5_readShafts yX5_readShafts, Cond.code yX5_readShafts cX5_readShafts 4 none, Cond.fieldLink RX5 26 "MoleMaps$Plan" "draught" "LMoleMaps$Row;", Cond.fieldLink RX5 33 "MoleMaps$Plan" "shafts" "I", Cond.fieldLink RX5 66 "MoleMaps$Page" "length" "I", Cond.methodLink RX5 63 yX8_fill, Cond.instanceMethod yX8_fill, Cond.selects RX8 yX8_fill yX8_fill, Cond.code yX8_fill cX8_fill 3 none, Cond.methodLink RX10 104 yX5_allGalleries, Cond.instanceMethod yX5_allGalleries]
def wsX10_mine_r5 : List Cond := [Cond.selects RX5 yX5_allGalleries yX5_allGalleries, Cond.code yX5_allGalleries cX5_allGalleries 1 (some .int), Cond.methodLink RX10 107 yX3_begin, Cond.instanceMethod yX3_begin, Cond.selects RX3 yX3_begin yX3_begin, Cond.initialized RX3, Cond.code yX3_begin cX3_begin 2 none, Cond.fieldLink RX3 23 "MoleMaps$Moment" "open" "I", Cond.fieldLink RX3 27 "MoleMaps$Moment" "moon" "Z", Cond.fieldLink RX3 14 "MoleMaps$Moment" "gas" "LMoleMaps$Row;", Cond.fieldLink RX3 34 "MoleMaps$Moment" "out" "I", Cond.fieldLink RX3 37 "MoleMaps$Moment" "gone" "I", Cond.methodLink RX3 31 yX8_fill, Cond.methodLink RX10 114 yX10_windChanges, Cond.instanceMethod yX10_windChanges, Cond.selects RX10 yX10_windChanges yX10_windChanges, Cond.code yX10_windChanges cX10_windChanges 1 none, Cond.fieldLink RX10 26 "MoleMaps" "air" "LMoleMaps$Air;", Cond.fieldLink RX10 146 "MoleMaps$Moment" "open" "I", Cond.fieldLink RX10 170 "MoleMaps$Moment" "moon" "Z", Cond.fieldLink RX10 36 "MoleMaps" "smoke" "LMoleMaps$Table;", Cond.methodLink RX10 305 yX0_blow, Cond.instanceMethod yX0_blow, Cond.selects RX0 yX0_blow yX0_blow]
def wsX10_mine_r6 : List Cond := [Cond.initialized RX0, Cond.code yX0_blow cX0_blow 5 none, Cond.fieldLink RX0 14 "MoleMaps$Air" "height" "LMoleMaps$Row;", Cond.fieldLink RX0 23 "MoleMaps$Air" "nearest" "LMoleMaps$Row;", Cond.methodLink RX0 26 yX0_findNearest, Cond.instanceMethod yX0_findNearest, Cond.selects RX0 yX0_findNearest yX0_findNearest, Cond.code yX0_findNearest cX0_findNearest 7 none, Cond.fieldLink RX0 45 "MoleMaps$Plan" "shafts" "I", Cond.fieldLink RX0 51 "MoleMaps$Plan" "galleries" "I", Cond.fieldLink RX0 58 "MoleMaps$Plan" "one" "LMoleMaps$Row;", Cond.fieldLink RX0 61 "MoleMaps$Plan" "two" "LMoleMaps$Row;", Cond.methodLink RX0 38 yX8_set, Cond.methodLink RX0 30 yX8_get, Cond.methodLink RX0 64 yX0_spread, Cond.instanceMethod yX0_spread, Cond.selects RX0 yX0_spread yX0_spread, Cond.code yX0_spread cX0_spread 4 (some .int), Cond.methodLink RX0 34 yX0_heightOf, Cond.static yX0_heightOf, Cond.code yX0_heightOf cX0_heightOf 6 (some .int), Cond.methodLink RX0 68 yJ6_bitCount_0f7a4, Cond.methodLink RX0 73 yX5_shaftHeight, Cond.instanceMethod yX5_shaftHeight]
def wsX10_mine_r7 : List Cond := [Cond.selects RX5 yX5_shaftHeight yX5_shaftHeight, Cond.code yX5_shaftHeight cX5_shaftHeight 4 (some .int), Cond.methodLink RX0 42 yX0_findFlows, Cond.instanceMethod yX0_findFlows, Cond.selects RX0 yX0_findFlows yX0_findFlows, Cond.code yX0_findFlows cX0_findFlows 7 none, Cond.fieldLink RX0 77 "MoleMaps$Air" "breathing" "I", Cond.fieldLink RX0 20 "MoleMaps$Air" "into" "LMoleMaps$Row;", Cond.methodLink RX0 80 yX0_lower, Cond.instanceMethod yX0_lower, Cond.selects RX0 yX0_lower yX0_lower, Cond.code yX0_lower cX0_lower 5 (some .int), Cond.methodLink RX10 309 yX0_carrySmoke, Cond.instanceMethod yX0_carrySmoke, Cond.selects RX0 yX0_carrySmoke yX0_carrySmoke, Cond.code yX0_carrySmoke cX0_carrySmoke 5 none, Cond.fieldLink RX0 91 "MoleMaps$Plan" "length" "LMoleMaps$Row;", Cond.methodLink RX0 83 yX9_clear, Cond.instanceMethod yX9_clear, Cond.selects RX9 yX9_clear yX9_clear, Cond.initialized RX9, Cond.code yX9_clear cX9_clear 2 none, Cond.fieldLink RX9 14 "MoleMaps$Table" "lengths" "LMoleMaps$Row;", Cond.methodLink RX9 20 yX8_fill]
def wsX10_mine_r8 : List Cond := [Cond.methodLink RX9 23 yX8_set, Cond.methodLink RX0 88 yX5_otherEnd, Cond.instanceMethod yX5_otherEnd, Cond.selects RX5 yX5_otherEnd yX5_otherEnd, Cond.code yX5_otherEnd cX5_otherEnd 3 (some .int), Cond.methodLink RX0 94 yX9_link, Cond.instanceMethod yX9_link, Cond.selects RX9 yX9_link yX9_link, Cond.code yX9_link cX9_link 5 none, Cond.methodLink RX9 31 yX9_between, Cond.instanceMethod yX9_between, Cond.selects RX9 yX9_between yX9_between, Cond.code yX9_between cX9_between 3 (some .int), Cond.methodLink RX9 27 yX8_get, Cond.methodLink RX0 98 yX9_joinWays, Cond.instanceMethod yX9_joinWays, Cond.selects RX9 yX9_joinWays yX9_joinWays, Cond.code yX9_joinWays cX9_joinWays 6 none, Cond.methodLink RX9 35 yX9_link]
def wsX10_mine : List Cond := .code yX10_mine cX10_mine 1 (some .int) :: ((wsX10_mine_r1 ++ (wsX10_mine_r2 ++ (wsX10_mine_r3 ++ (wsX10_mine_r4 ++ (wsX10_mine_r5 ++ (wsX10_mine_r6 ++ (wsX10_mine_r7 ++ wsX10_mine_r8))))))) ++ wsX100 ++ wsX40 ++ wsX10 ++ wsX50 ++ wsX60 ++ wsX80 ++ wsX30 ++ wsX00 ++ wsX90)
def wsX10_gallery_r1 : List Cond := [Cond.fieldLink RX10 19 "MoleMaps" "plan" "LMoleMaps$Plan;", Cond.fieldLink RX10 124 "MoleMaps$Plan" "one" "LMoleMaps$Row;", Cond.fieldLink RX10 134 "MoleMaps$Plan" "two" "LMoleMaps$Row;", Cond.fieldLink RX10 137 "MoleMaps$Plan" "length" "LMoleMaps$Row;", Cond.fieldLink RX10 139 "MoleMaps$Plan" "doors" "I", Cond.fieldLink RX10 50 "MoleMaps" "now" "LMoleMaps$Moment;", Cond.fieldLink RX10 146 "MoleMaps$Moment" "open" "I", Cond.fieldLink RX10 26 "MoleMaps" "air" "LMoleMaps$Air;", Cond.fieldLink RX10 149 "MoleMaps$Air" "into" "LMoleMaps$Row;", Cond.methodLink RX10 120 yX5_hasGallery, Cond.instanceMethod yX5_hasGallery, Cond.selects RX5 yX5_hasGallery yX5_hasGallery, Cond.initialized RX5, Cond.code yX5_hasGallery cX5_hasGallery 2 (some .boolean), Cond.fieldLink RX5 29 "MoleMaps$Plan" "galleries" "I", Cond.methodLink RX10 128 yX8_get, Cond.instanceMethod yX8_get, Cond.selects RX8 yX8_get yX8_get, Cond.initialized RX8, Cond.code yX8_get cX8_get 2 (some .int), Cond.fieldLink RX8 7 "MoleMaps$Row" "cells" "[I", Cond.methodLink RX10 142 yX10_bit, Cond.static yX10_bit, Cond.initialized RX10]
def wsX10_gallery_r2 : List Cond := [Cond.code yX10_bit cX10_bit 2 (some .int)]
def wsX10_gallery : List Cond := .code yX10_gallery cX10_gallery 3 (some .int) :: ((wsX10_gallery_r1 ++ wsX10_gallery_r2) ++ wsX100 ++ wsX50 ++ wsX30 ++ wsX00 ++ wsX80)
def wsX10_knot_r1 : List Cond := [Cond.fieldLink RX10 19 "MoleMaps" "plan" "LMoleMaps$Plan;", Cond.fieldLink RX10 158 "MoleMaps$Plan" "draught" "LMoleMaps$Row;", Cond.fieldLink RX10 26 "MoleMaps" "air" "LMoleMaps$Air;", Cond.fieldLink RX10 161 "MoleMaps$Air" "height" "LMoleMaps$Row;", Cond.fieldLink RX10 164 "MoleMaps$Air" "breathing" "I", Cond.fieldLink RX10 50 "MoleMaps" "now" "LMoleMaps$Moment;", Cond.fieldLink RX10 167 "MoleMaps$Moment" "gas" "LMoleMaps$Row;", Cond.methodLink RX10 152 yX5_isRead, Cond.instanceMethod yX5_isRead, Cond.selects RX5 yX5_isRead yX5_isRead, Cond.initialized RX5, Cond.code yX5_isRead cX5_isRead 1 (some .boolean), Cond.fieldLink RX5 29 "MoleMaps$Plan" "galleries" "I", Cond.methodLink RX10 155 yX10_isKnot, Cond.static yX10_isKnot, Cond.initialized RX10, Cond.code yX10_isKnot cX10_isKnot 1 (some .boolean), Cond.methodLink RX10 128 yX8_get, Cond.instanceMethod yX8_get, Cond.selects RX8 yX8_get yX8_get, Cond.initialized RX8, Cond.code yX8_get cX8_get 2 (some .int), Cond.fieldLink RX8 7 "MoleMaps$Row" "cells" "[I", Cond.methodLink RX10 142 yX10_bit]
def wsX10_knot_r2 : List Cond := [Cond.static yX10_bit, Cond.code yX10_bit cX10_bit 2 (some .int)]
def wsX10_knot : List Cond := .code yX10_knot cX10_knot 3 (some .int) :: ((wsX10_knot_r1 ++ wsX10_knot_r2) ++ wsX100 ++ wsX50 ++ wsX00 ++ wsX30 ++ wsX80)
def wsX10_door_r1 : List Cond := [Cond.fieldLink RX10 19 "MoleMaps" "plan" "LMoleMaps$Plan;", Cond.fieldLink RX10 139 "MoleMaps$Plan" "doors" "I", Cond.fieldLink RX10 50 "MoleMaps" "now" "LMoleMaps$Moment;", Cond.fieldLink RX10 146 "MoleMaps$Moment" "open" "I", Cond.methodLink RX10 120 yX5_hasGallery, Cond.instanceMethod yX5_hasGallery, Cond.selects RX5 yX5_hasGallery yX5_hasGallery, Cond.initialized RX5, Cond.code yX5_hasGallery cX5_hasGallery 2 (some .boolean), Cond.fieldLink RX5 29 "MoleMaps$Plan" "galleries" "I", Cond.methodLink RX10 142 yX10_bit, Cond.static yX10_bit, Cond.initialized RX10, Cond.code yX10_bit cX10_bit 2 (some .int), Cond.methodLink RX10 114 yX10_windChanges, Cond.instanceMethod yX10_windChanges, Cond.selects RX10 yX10_windChanges yX10_windChanges, Cond.code yX10_windChanges cX10_windChanges 1 none, Cond.fieldLink RX10 26 "MoleMaps" "air" "LMoleMaps$Air;", Cond.fieldLink RX10 170 "MoleMaps$Moment" "moon" "Z", Cond.fieldLink RX10 36 "MoleMaps" "smoke" "LMoleMaps$Table;", Cond.methodLink RX10 305 yX0_blow, Cond.instanceMethod yX0_blow, Cond.selects RX0 yX0_blow yX0_blow]
def wsX10_door_r2 : List Cond := [Cond.initialized RX0, Cond.code yX0_blow cX0_blow 5 none, Cond.fieldLink RX0 14 "MoleMaps$Air" "height" "LMoleMaps$Row;", Cond.fieldLink RX0 23 "MoleMaps$Air" "nearest" "LMoleMaps$Row;", Cond.methodLink RX0 26 yX0_findNearest, Cond.instanceMethod yX0_findNearest, Cond.selects RX0 yX0_findNearest yX0_findNearest, Cond.code yX0_findNearest cX0_findNearest 7 none, Cond.fieldLink RX0 45 "MoleMaps$Plan" "shafts" "I", Cond.fieldLink RX0 51 "MoleMaps$Plan" "galleries" "I", Cond.fieldLink RX0 58 "MoleMaps$Plan" "one" "LMoleMaps$Row;", Cond.fieldLink RX0 61 "MoleMaps$Plan" "two" "LMoleMaps$Row;", Cond.methodLink RX0 38 yX8_set, Cond.instanceMethod yX8_set, Cond.selects RX8 yX8_set yX8_set, Cond.initialized RX8, Cond.code yX8_set cX8_set 3 none, Cond.fieldLink RX8 7 "MoleMaps$Row" "cells" "[I", Cond.methodLink RX0 30 yX8_get, Cond.instanceMethod yX8_get, Cond.selects RX8 yX8_get yX8_get, Cond.code yX8_get cX8_get 2 (some .int), Cond.methodLink RX0 64 yX0_spread, Cond.instanceMethod yX0_spread]
def wsX10_door_r3 : List Cond := [Cond.selects RX0 yX0_spread yX0_spread, Cond.code yX0_spread cX0_spread 4 (some .int), Cond.methodLink RX0 34 yX0_heightOf, Cond.static yX0_heightOf, Cond.code yX0_heightOf cX0_heightOf 6 (some .int), Cond.methodLink RX0 68 yJ6_bitCount_0f7a4, Cond.static yJ6_bitCount_0f7a4, Cond.initialized RJ6, Cond.code yJ6_bitCount_0f7a4 cJ6_bitCount_0f7a4 1 (some .int), Cond.constant RJ6 265 (1431655765), Cond.constant RJ6 266 (858993459), Cond.constant RJ6 267 (252645135), Cond.methodLink RX0 73 yX5_shaftHeight, Cond.instanceMethod yX5_shaftHeight, Cond.selects RX5 yX5_shaftHeight yX5_shaftHeight, Cond.code yX5_shaftHeight cX5_shaftHeight 4 (some .int), Cond.fieldLink RX5 26 "MoleMaps$Plan" "draught" "LMoleMaps$Row;", Cond.methodLink RX5 48 yX8_get, Cond.methodLink RX0 42 yX0_findFlows, Cond.instanceMethod yX0_findFlows, Cond.selects RX0 yX0_findFlows yX0_findFlows, Cond.code yX0_findFlows cX0_findFlows 7 none, Cond.fieldLink RX0 77 "MoleMaps$Air" "breathing" "I", Cond.fieldLink RX0 20 "MoleMaps$Air" "into" "LMoleMaps$Row;"]
def wsX10_door_r4 : List Cond := [Cond.methodLink RX0 80 yX0_lower, Cond.instanceMethod yX0_lower, Cond.selects RX0 yX0_lower yX0_lower, Cond.code yX0_lower cX0_lower 5 (some .int), Cond.methodLink RX10 309 yX0_carrySmoke, Cond.instanceMethod yX0_carrySmoke, Cond.selects RX0 yX0_carrySmoke yX0_carrySmoke, Cond.code yX0_carrySmoke cX0_carrySmoke 5 none, Cond.fieldLink RX0 91 "MoleMaps$Plan" "length" "LMoleMaps$Row;", Cond.methodLink RX0 83 yX9_clear, Cond.instanceMethod yX9_clear, Cond.selects RX9 yX9_clear yX9_clear, Cond.initialized RX9, Cond.code yX9_clear cX9_clear 2 none, Cond.fieldLink RX9 14 "MoleMaps$Table" "lengths" "LMoleMaps$Row;", Cond.methodLink RX9 20 yX8_fill, Cond.instanceMethod yX8_fill, Cond.selects RX8 yX8_fill yX8_fill, Cond.code yX8_fill cX8_fill 3 none, Cond.methodLink RX9 23 yX8_set, Cond.methodLink RX0 88 yX5_otherEnd, Cond.instanceMethod yX5_otherEnd, Cond.selects RX5 yX5_otherEnd yX5_otherEnd, Cond.code yX5_otherEnd cX5_otherEnd 3 (some .int)]
def wsX10_door_r5 : List Cond := [Cond.fieldLink RX5 14 "MoleMaps$Plan" "one" "LMoleMaps$Row;", Cond.fieldLink RX5 20 "MoleMaps$Plan" "two" "LMoleMaps$Row;", Cond.methodLink RX0 94 yX9_link, Cond.instanceMethod yX9_link, Cond.selects RX9 yX9_link yX9_link, Cond.code yX9_link cX9_link 5 none, Cond.methodLink RX9 31 yX9_between, Cond.instanceMethod yX9_between, Cond.selects RX9 yX9_between yX9_between, Cond.code yX9_between cX9_between 3 (some .int), Cond.methodLink RX9 27 yX8_get, Cond.methodLink RX0 98 yX9_joinWays, Cond.instanceMethod yX9_joinWays, Cond.selects RX9 yX9_joinWays yX9_joinWays, Cond.code yX9_joinWays cX9_joinWays 6 none, Cond.methodLink RX9 35 yX9_link]
def wsX10_door : List Cond := .code yX10_door cX10_door 4 (some .int) :: ((wsX10_door_r1 ++ (wsX10_door_r2 ++ (wsX10_door_r3 ++ (wsX10_door_r4 ++ wsX10_door_r5)))) ++ wsX100 ++ wsX50 ++ wsX30 ++ wsX00 ++ wsX80 ++ wsX90)
def wsX10_turn_r1 : List Cond := [Cond.fieldLink RX10 19 "MoleMaps" "plan" "LMoleMaps$Plan;", Cond.fieldLink RX10 50 "MoleMaps" "now" "LMoleMaps$Moment;", Cond.fieldLink RX10 170 "MoleMaps$Moment" "moon" "Z", Cond.methodLink RX10 152 yX5_isRead, Cond.instanceMethod yX5_isRead, Cond.selects RX5 yX5_isRead yX5_isRead, Cond.initialized RX5, Cond.code yX5_isRead cX5_isRead 1 (some .boolean), Cond.fieldLink RX5 29 "MoleMaps$Plan" "galleries" "I", Cond.methodLink RX10 114 yX10_windChanges, Cond.instanceMethod yX10_windChanges, Cond.selects RX10 yX10_windChanges yX10_windChanges, Cond.initialized RX10, Cond.code yX10_windChanges cX10_windChanges 1 none, Cond.fieldLink RX10 26 "MoleMaps" "air" "LMoleMaps$Air;", Cond.fieldLink RX10 146 "MoleMaps$Moment" "open" "I", Cond.fieldLink RX10 36 "MoleMaps" "smoke" "LMoleMaps$Table;", Cond.methodLink RX10 305 yX0_blow, Cond.instanceMethod yX0_blow, Cond.selects RX0 yX0_blow yX0_blow, Cond.initialized RX0, Cond.code yX0_blow cX0_blow 5 none, Cond.fieldLink RX0 14 "MoleMaps$Air" "height" "LMoleMaps$Row;", Cond.fieldLink RX0 23 "MoleMaps$Air" "nearest" "LMoleMaps$Row;"]
def wsX10_turn_r2 : List Cond := [Cond.methodLink RX0 26 yX0_findNearest, Cond.instanceMethod yX0_findNearest, Cond.selects RX0 yX0_findNearest yX0_findNearest, Cond.code yX0_findNearest cX0_findNearest 7 none, Cond.fieldLink RX0 45 "MoleMaps$Plan" "shafts" "I", Cond.fieldLink RX0 51 "MoleMaps$Plan" "galleries" "I", Cond.fieldLink RX0 58 "MoleMaps$Plan" "one" "LMoleMaps$Row;", Cond.fieldLink RX0 61 "MoleMaps$Plan" "two" "LMoleMaps$Row;", Cond.methodLink RX0 38 yX8_set, Cond.instanceMethod yX8_set, Cond.selects RX8 yX8_set yX8_set, Cond.initialized RX8, Cond.code yX8_set cX8_set 3 none, Cond.fieldLink RX8 7 "MoleMaps$Row" "cells" "[I", Cond.static yX10_bit, Cond.code yX10_bit cX10_bit 2 (some .int), Cond.methodLink RX0 30 yX8_get, Cond.instanceMethod yX8_get, Cond.selects RX8 yX8_get yX8_get, Cond.code yX8_get cX8_get 2 (some .int), Cond.methodLink RX0 64 yX0_spread, Cond.instanceMethod yX0_spread, Cond.selects RX0 yX0_spread yX0_spread, Cond.code yX0_spread cX0_spread 4 (some .int)]
def wsX10_turn_r3 : List Cond := [Cond.methodLink RX0 34 yX0_heightOf, Cond.static yX0_heightOf, Cond.code yX0_heightOf cX0_heightOf 6 (some .int), Cond.methodLink RX0 68 yJ6_bitCount_0f7a4, Cond.static yJ6_bitCount_0f7a4, Cond.initialized RJ6, Cond.code yJ6_bitCount_0f7a4 cJ6_bitCount_0f7a4 1 (some .int), Cond.constant RJ6 265 (1431655765), Cond.constant RJ6 266 (858993459), Cond.constant RJ6 267 (252645135), Cond.methodLink RX0 73 yX5_shaftHeight, Cond.instanceMethod yX5_shaftHeight, Cond.selects RX5 yX5_shaftHeight yX5_shaftHeight, Cond.code yX5_shaftHeight cX5_shaftHeight 4 (some .int), Cond.fieldLink RX5 26 "MoleMaps$Plan" "draught" "LMoleMaps$Row;", Cond.methodLink RX5 48 yX8_get, Cond.methodLink RX0 42 yX0_findFlows, Cond.instanceMethod yX0_findFlows, Cond.selects RX0 yX0_findFlows yX0_findFlows, Cond.code yX0_findFlows cX0_findFlows 7 none, Cond.fieldLink RX0 77 "MoleMaps$Air" "breathing" "I", Cond.fieldLink RX0 20 "MoleMaps$Air" "into" "LMoleMaps$Row;", Cond.methodLink RX0 80 yX0_lower, Cond.instanceMethod yX0_lower]
def wsX10_turn_r4 : List Cond := [Cond.selects RX0 yX0_lower yX0_lower, Cond.code yX0_lower cX0_lower 5 (some .int), Cond.methodLink RX10 309 yX0_carrySmoke, Cond.instanceMethod yX0_carrySmoke, Cond.selects RX0 yX0_carrySmoke yX0_carrySmoke, Cond.code yX0_carrySmoke cX0_carrySmoke 5 none, Cond.fieldLink RX0 91 "MoleMaps$Plan" "length" "LMoleMaps$Row;", Cond.methodLink RX0 83 yX9_clear, Cond.instanceMethod yX9_clear, Cond.selects RX9 yX9_clear yX9_clear, Cond.initialized RX9, Cond.code yX9_clear cX9_clear 2 none, Cond.fieldLink RX9 14 "MoleMaps$Table" "lengths" "LMoleMaps$Row;", Cond.methodLink RX9 20 yX8_fill, Cond.instanceMethod yX8_fill, Cond.selects RX8 yX8_fill yX8_fill, Cond.code yX8_fill cX8_fill 3 none, Cond.methodLink RX9 23 yX8_set, Cond.methodLink RX0 88 yX5_otherEnd, Cond.instanceMethod yX5_otherEnd, Cond.selects RX5 yX5_otherEnd yX5_otherEnd, Cond.code yX5_otherEnd cX5_otherEnd 3 (some .int), Cond.fieldLink RX5 14 "MoleMaps$Plan" "one" "LMoleMaps$Row;", Cond.fieldLink RX5 20 "MoleMaps$Plan" "two" "LMoleMaps$Row;"]
def wsX10_turn_r5 : List Cond := [Cond.methodLink RX0 94 yX9_link, Cond.instanceMethod yX9_link, Cond.selects RX9 yX9_link yX9_link, Cond.code yX9_link cX9_link 5 none, Cond.methodLink RX9 31 yX9_between, Cond.instanceMethod yX9_between, Cond.selects RX9 yX9_between yX9_between, Cond.code yX9_between cX9_between 3 (some .int), Cond.methodLink RX9 27 yX8_get, Cond.methodLink RX0 98 yX9_joinWays, Cond.instanceMethod yX9_joinWays, Cond.selects RX9 yX9_joinWays yX9_joinWays, Cond.code yX9_joinWays cX9_joinWays 6 none, Cond.methodLink RX9 35 yX9_link]
def wsX10_turn : List Cond := .code yX10_turn cX10_turn 1 (some .int) :: ((wsX10_turn_r1 ++ (wsX10_turn_r2 ++ (wsX10_turn_r3 ++ (wsX10_turn_r4 ++ wsX10_turn_r5)))) ++ wsX100 ++ wsX30 ++ wsX50 ++ wsX00 ++ wsX80 ++ wsX90)
def wsX10_man_r1 : List Cond := [Cond.fieldLink RX10 19 "MoleMaps" "plan" "LMoleMaps$Plan;", Cond.fieldLink RX10 43 "MoleMaps" "crew" "LMoleMaps$Crew;", Cond.fieldLink RX10 101 "MoleMaps$Crew" "size" "I", Cond.fieldLink RX10 177 "MoleMaps$Crew" "kinds" "LMoleMaps$Row;", Cond.fieldLink RX10 50 "MoleMaps" "now" "LMoleMaps$Moment;", Cond.fieldLink RX10 184 "MoleMaps$Moment" "place" "LMoleMaps$Row;", Cond.methodLink RX10 152 yX5_isRead, Cond.instanceMethod yX5_isRead, Cond.selects RX5 yX5_isRead yX5_isRead, Cond.initialized RX5, Cond.code yX5_isRead cX5_isRead 1 (some .boolean), Cond.fieldLink RX5 29 "MoleMaps$Plan" "galleries" "I", Cond.methodLink RX10 174 yX1_isKind, Cond.static yX1_isKind, Cond.initialized RX1, Cond.code yX1_isKind cX1_isKind 1 (some .boolean), Cond.methodLink RX10 155 yX10_isKnot, Cond.static yX10_isKnot, Cond.initialized RX10, Cond.code yX10_isKnot cX10_isKnot 1 (some .boolean), Cond.methodLink RX10 180 yX8_set, Cond.instanceMethod yX8_set, Cond.selects RX8 yX8_set yX8_set, Cond.initialized RX8]
def wsX10_man_r2 : List Cond := [Cond.code yX8_set cX8_set 3 none, Cond.fieldLink RX8 7 "MoleMaps$Row" "cells" "[I"]
def wsX10_man : List Cond := .code yX10_man cX10_man 4 (some .int) :: ((wsX10_man_r1 ++ wsX10_man_r2) ++ wsX100 ++ wsX10 ++ wsX30 ++ wsX50 ++ wsX80)
def wsX10_about_r1 : List Cond := [Cond.fieldLink RX10 43 "MoleMaps" "crew" "LMoleMaps$Crew;", Cond.fieldLink RX10 177 "MoleMaps$Crew" "kinds" "LMoleMaps$Row;", Cond.fieldLink RX10 50 "MoleMaps" "now" "LMoleMaps$Moment;", Cond.fieldLink RX10 184 "MoleMaps$Moment" "place" "LMoleMaps$Row;", Cond.fieldLink RX10 190 "MoleMaps$Moment" "out" "I", Cond.methodLink RX10 187 yX1_has, Cond.instanceMethod yX1_has, Cond.selects RX1 yX1_has yX1_has, Cond.initialized RX1, Cond.code yX1_has cX1_has 2 (some .boolean), Cond.fieldLink RX1 20 "MoleMaps$Crew" "size" "I", Cond.methodLink RX10 128 yX8_get, Cond.instanceMethod yX8_get, Cond.selects RX8 yX8_get yX8_get, Cond.initialized RX8, Cond.code yX8_get cX8_get 2 (some .int), Cond.fieldLink RX8 7 "MoleMaps$Row" "cells" "[I", Cond.methodLink RX10 142 yX10_bit, Cond.static yX10_bit, Cond.initialized RX10, Cond.code yX10_bit cX10_bit 2 (some .int), Cond.methodLink RX10 193 yX1_bears, Cond.instanceMethod yX1_bears, Cond.selects RX1 yX1_bears yX1_bears]
def wsX10_about_r2 : List Cond := [Cond.code yX1_bears cX1_bears 2 (some .int), Cond.fieldLink RX1 14 "MoleMaps$Crew" "kinds" "LMoleMaps$Row;", Cond.methodLink RX1 24 yX8_get]
def wsX10_about : List Cond := .code yX10_about cX10_about 3 (some .int) :: ((wsX10_about_r1 ++ wsX10_about_r2) ++ wsX100 ++ wsX10 ++ wsX30 ++ wsX80)
def wsX10_as : List Cond := .code yX10_as cX10_as 3 (some .int) :: ([.fieldLink RX10 43 "MoleMaps" "crew" "LMoleMaps$Crew;", .methodLink RX10 187 yX1_has, .instanceMethod yX1_has, .selects RX1 yX1_has yX1_has, .initialized RX1, .code yX1_has cX1_has 2 (some .boolean), .fieldLink RX1 20 "MoleMaps$Crew" "size" "I", .methodLink RX10 174 yX1_isKind, .static yX1_isKind, .code yX1_isKind cX1_isKind 1 (some .boolean), .methodLink RX10 196 yX1_isOf, .instanceMethod yX1_isOf, .selects RX1 yX1_isOf yX1_isOf, .code yX1_isOf cX1_isOf 4 (some .boolean), .fieldLink RX1 14 "MoleMaps$Crew" "kinds" "LMoleMaps$Row;", .methodLink RX1 24 yX8_get, .instanceMethod yX8_get, .selects RX8 yX8_get yX8_get, .initialized RX8, .code yX8_get cX8_get 2 (some .int), .fieldLink RX8 7 "MoleMaps$Row" "cells" "[I"] ++ wsX100 ++ wsX10 ++ wsX80)
def wsX10_walk_r1 : List Cond := [Cond.fieldLink RX10 43 "MoleMaps" "crew" "LMoleMaps$Crew;", Cond.fieldLink RX10 19 "MoleMaps" "plan" "LMoleMaps$Plan;", Cond.fieldLink RX10 50 "MoleMaps" "now" "LMoleMaps$Moment;", Cond.fieldLink RX10 184 "MoleMaps$Moment" "place" "LMoleMaps$Row;", Cond.fieldLink RX10 146 "MoleMaps$Moment" "open" "I", Cond.fieldLink RX10 190 "MoleMaps$Moment" "out" "I", Cond.methodLink RX10 187 yX1_has, Cond.instanceMethod yX1_has, Cond.selects RX1 yX1_has yX1_has, Cond.initialized RX1, Cond.code yX1_has cX1_has 2 (some .boolean), Cond.fieldLink RX1 20 "MoleMaps$Crew" "size" "I", Cond.methodLink RX10 120 yX5_hasGallery, Cond.instanceMethod yX5_hasGallery, Cond.selects RX5 yX5_hasGallery yX5_hasGallery, Cond.initialized RX5, Cond.code yX5_hasGallery cX5_hasGallery 2 (some .boolean), Cond.fieldLink RX5 29 "MoleMaps$Plan" "galleries" "I", Cond.methodLink RX10 128 yX8_get, Cond.instanceMethod yX8_get, Cond.selects RX8 yX8_get yX8_get, Cond.initialized RX8, Cond.code yX8_get cX8_get 2 (some .int), Cond.fieldLink RX8 7 "MoleMaps$Row" "cells" "[I"]
def wsX10_walk_r2 : List Cond := [Cond.methodLink RX10 142 yX10_bit, Cond.static yX10_bit, Cond.initialized RX10, Cond.code yX10_bit cX10_bit 2 (some .int), Cond.methodLink RX10 196 yX1_isOf, Cond.instanceMethod yX1_isOf, Cond.selects RX1 yX1_isOf yX1_isOf, Cond.code yX1_isOf cX1_isOf 4 (some .boolean), Cond.fieldLink RX1 14 "MoleMaps$Crew" "kinds" "LMoleMaps$Row;", Cond.methodLink RX1 24 yX8_get, Cond.methodLink RX10 200 yX5_isAt, Cond.instanceMethod yX5_isAt, Cond.selects RX5 yX5_isAt yX5_isAt, Cond.code yX5_isAt cX5_isAt 3 (some .boolean), Cond.fieldLink RX5 14 "MoleMaps$Plan" "one" "LMoleMaps$Row;", Cond.fieldLink RX5 20 "MoleMaps$Plan" "two" "LMoleMaps$Row;", Cond.methodLink RX5 48 yX8_get, Cond.methodLink RX10 203 yX5_otherEnd, Cond.instanceMethod yX5_otherEnd, Cond.selects RX5 yX5_otherEnd yX5_otherEnd, Cond.code yX5_otherEnd cX5_otherEnd 3 (some .int), Cond.methodLink RX10 180 yX8_set, Cond.instanceMethod yX8_set, Cond.selects RX8 yX8_set yX8_set]
def wsX10_walk_r3 : List Cond := [Cond.code yX8_set cX8_set 3 none]
def wsX10_walk : List Cond := .code yX10_walk cX10_walk 6 (some .int) :: ((wsX10_walk_r1 ++ (wsX10_walk_r2 ++ wsX10_walk_r3)) ++ wsX100 ++ wsX30 ++ wsX10 ++ wsX50 ++ wsX80)
def wsX10_minutes_r1 : List Cond := [Cond.fieldLink RX10 19 "MoleMaps" "plan" "LMoleMaps$Plan;", Cond.fieldLink RX10 50 "MoleMaps" "now" "LMoleMaps$Moment;", Cond.fieldLink RX10 190 "MoleMaps$Moment" "out" "I", Cond.fieldLink RX10 43 "MoleMaps" "crew" "LMoleMaps$Crew;", Cond.fieldLink RX10 26 "MoleMaps" "air" "LMoleMaps$Air;", Cond.fieldLink RX10 164 "MoleMaps$Air" "breathing" "I", Cond.methodLink RX10 152 yX5_isRead, Cond.instanceMethod yX5_isRead, Cond.selects RX5 yX5_isRead yX5_isRead, Cond.initialized RX5, Cond.code yX5_isRead cX5_isRead 1 (some .boolean), Cond.fieldLink RX5 29 "MoleMaps$Plan" "galleries" "I", Cond.methodLink RX10 206 yJ6_bitCount_0f7a4, Cond.static yJ6_bitCount_0f7a4, Cond.initialized RJ6, Cond.code yJ6_bitCount_0f7a4 cJ6_bitCount_0f7a4 1 (some .int), Cond.constant RJ6 265 (1431655765), Cond.constant RJ6 266 (858993459), Cond.constant RJ6 267 (252645135), Cond.methodLink RX10 211 yX3_passMinute, Cond.instanceMethod yX3_passMinute, Cond.selects RX3 yX3_passMinute yX3_passMinute, Cond.initialized RX3, Cond.code yX3_passMinute cX3_passMinute 5 none]
def wsX10_minutes_r2 : List Cond := [Cond.fieldLink RX3 14 "MoleMaps$Moment" "gas" "LMoleMaps$Row;", Cond.methodLink RX3 52 Lib.Math.min.name, Cond.static Lib.Math.min.name, Cond.initialized "java/lang/Math", Cond.code Lib.Math.min.name Lib.Math.min.code 2 (some .int), Cond.fieldLink RX3 61 "MoleMaps$Crew" "size" "I", Cond.fieldLink RX3 20 "MoleMaps$Moment" "place" "LMoleMaps$Row;", Cond.fieldLink RX3 34 "MoleMaps$Moment" "out" "I", Cond.fieldLink RX3 37 "MoleMaps$Moment" "gone" "I", Cond.static yX10_bit, Cond.initialized RX10, Cond.code yX10_bit cX10_bit 2 (some .int), Cond.methodLink RX3 48 yX8_get, Cond.instanceMethod yX8_get, Cond.selects RX8 yX8_get yX8_get, Cond.initialized RX8, Cond.code yX8_get cX8_get 2 (some .int), Cond.fieldLink RX8 7 "MoleMaps$Row" "cells" "[I", Cond.methodLink RX3 57 yX8_set, Cond.instanceMethod yX8_set, Cond.selects RX8 yX8_set yX8_set, Cond.code yX8_set cX8_set 3 none, Cond.methodLink RX3 66 yX1_bears, Cond.instanceMethod yX1_bears]
def wsX10_minutes_r3 : List Cond := [Cond.selects RX1 yX1_bears yX1_bears, Cond.initialized RX1, Cond.code yX1_bears cX1_bears 2 (some .int), Cond.fieldLink RX1 14 "MoleMaps$Crew" "kinds" "LMoleMaps$Row;", Cond.methodLink RX1 24 yX8_get]
def wsX10_minutes : List Cond := .code yX10_minutes cX10_minutes 4 (some .int) :: ((wsX10_minutes_r1 ++ (wsX10_minutes_r2 ++ wsX10_minutes_r3)) ++ wsX100 ++ wsX30 ++ wsX00 ++ wsX50 ++ wsX10 ++ wsX80)
def wsX10_smelt : List Cond := .code yX10_smelt cX10_smelt 3 (some .int) :: ([.fieldLink RX10 19 "MoleMaps" "plan" "LMoleMaps$Plan;", .fieldLink RX10 36 "MoleMaps" "smoke" "LMoleMaps$Table;", .methodLink RX10 152 yX5_isRead, .instanceMethod yX5_isRead, .selects RX5 yX5_isRead yX5_isRead, .initialized RX5, .code yX5_isRead cX5_isRead 1 (some .boolean), .fieldLink RX5 29 "MoleMaps$Plan" "galleries" "I", .methodLink RX10 155 yX10_isKnot, .static yX10_isKnot, .initialized RX10, .code yX10_isKnot cX10_isKnot 1 (some .boolean), .methodLink RX10 215 yX9_between, .instanceMethod yX9_between, .selects RX9 yX9_between yX9_between, .initialized RX9, .code yX9_between cX9_between 3 (some .int), .fieldLink RX9 14 "MoleMaps$Table" "lengths" "LMoleMaps$Row;", .methodLink RX9 27 yX8_get, .instanceMethod yX8_get, .selects RX8 yX8_get yX8_get, .initialized RX8, .code yX8_get cX8_get 2 (some .int), .fieldLink RX8 7 "MoleMaps$Row" "cells" "[I"] ++ wsX100 ++ wsX50 ++ wsX90 ++ wsX80)
def wsX10_wayOut_r1 : List Cond := [Cond.fieldLink RX10 19 "MoleMaps" "plan" "LMoleMaps$Plan;", Cond.fieldLink RX10 26 "MoleMaps" "air" "LMoleMaps$Air;", Cond.methodLink RX10 152 yX5_isRead, Cond.instanceMethod yX5_isRead, Cond.selects RX5 yX5_isRead yX5_isRead, Cond.initialized RX5, Cond.code yX5_isRead cX5_isRead 1 (some .boolean), Cond.fieldLink RX5 29 "MoleMaps$Plan" "galleries" "I", Cond.methodLink RX10 155 yX10_isKnot, Cond.static yX10_isKnot, Cond.initialized RX10, Cond.code yX10_isKnot cX10_isKnot 1 (some .boolean), Cond.methodLink RX10 227 yX5_isShaft, Cond.instanceMethod yX5_isShaft, Cond.selects RX5 yX5_isShaft yX5_isShaft, Cond.code yX5_isShaft cX5_isShaft 2 (some .boolean), Cond.fieldLink RX5 33 "MoleMaps$Plan" "shafts" "I", Cond.static yX10_bit, Cond.code yX10_bit cX10_bit 2 (some .int), Cond.methodLink RX10 230 yX0_firstInto, Cond.instanceMethod yX0_firstInto, Cond.selects RX0 yX0_firstInto yX0_firstInto, Cond.initialized RX0, Cond.code yX0_firstInto cX0_firstInto 4 (some .int)]
def wsX10_wayOut_r2 : List Cond := [Cond.fieldLink RX0 51 "MoleMaps$Plan" "galleries" "I", Cond.fieldLink RX0 20 "MoleMaps$Air" "into" "LMoleMaps$Row;", Cond.methodLink RX0 30 yX8_get, Cond.instanceMethod yX8_get, Cond.selects RX8 yX8_get yX8_get, Cond.initialized RX8, Cond.code yX8_get cX8_get 2 (some .int), Cond.fieldLink RX8 7 "MoleMaps$Row" "cells" "[I", Cond.methodLink RX10 203 yX5_otherEnd, Cond.instanceMethod yX5_otherEnd, Cond.selects RX5 yX5_otherEnd yX5_otherEnd, Cond.code yX5_otherEnd cX5_otherEnd 3 (some .int), Cond.fieldLink RX5 14 "MoleMaps$Plan" "one" "LMoleMaps$Row;", Cond.fieldLink RX5 20 "MoleMaps$Plan" "two" "LMoleMaps$Row;", Cond.methodLink RX5 48 yX8_get]
def wsX10_wayOut : List Cond := .code yX10_wayOut cX10_wayOut 5 (some .int) :: ((wsX10_wayOut_r1 ++ wsX10_wayOut_r2) ++ wsX100 ++ wsX50 ++ wsX00 ++ wsX80)
def wsJ6_numberOfTrailingZeros_0f7a4 : List Cond := .code yJ6_numberOfTrailingZeros_0f7a4 cJ6_numberOfTrailingZeros_0f7a4 2 (some .int) :: ([.constant RJ6 264 (65536)])
def wsX10_placeOfBit : List Cond := .code yX10_placeOfBit cX10_placeOfBit 4 (some .int) :: ([.methodLink RX10 328 yJ6_numberOfTrailingZeros_0f7a4, .static yJ6_numberOfTrailingZeros_0f7a4, .initialized RJ6, .code yJ6_numberOfTrailingZeros_0f7a4 cJ6_numberOfTrailingZeros_0f7a4 2 (some .int), .constant RJ6 264 (65536)])
def wsX10_dreamWalk_r1 : List Cond := [Cond.fieldLink RX10 43 "MoleMaps" "crew" "LMoleMaps$Crew;", Cond.fieldLink RX10 101 "MoleMaps$Crew" "size" "I", Cond.fieldLink RX10 63 "MoleMaps" "draws" "LMoleMaps$Draws;", Cond.fieldLink RX10 57 "MoleMaps" "dream" "LMoleMaps$Moment;", Cond.fieldLink RX10 190 "MoleMaps$Moment" "out" "I", Cond.fieldLink RX10 184 "MoleMaps$Moment" "place" "LMoleMaps$Row;", Cond.fieldLink RX10 19 "MoleMaps" "plan" "LMoleMaps$Plan;", Cond.fieldLink RX10 146 "MoleMaps$Moment" "open" "I", Cond.methodLink RX10 319 yX2_draw, Cond.instanceMethod yX2_draw, Cond.selects RX2 yX2_draw yX2_draw, Cond.initialized RX2, Cond.code yX2_draw cX2_draw 2 (some .int), Cond.constantLong RX2 9 (1103515245), Cond.fieldLink RX2 11 "MoleMaps$Draws" "seed" "I", Cond.constantLong RX2 15 (12345), Cond.constantLong RX2 17 (2147483648), Cond.constant RX2 19 (65536), Cond.methodLink RX10 142 yX10_bit, Cond.static yX10_bit, Cond.initialized RX10, Cond.code yX10_bit cX10_bit 2 (some .int), Cond.methodLink RX10 128 yX8_get, Cond.instanceMethod yX8_get]
def wsX10_dreamWalk_r2 : List Cond := [Cond.selects RX8 yX8_get yX8_get, Cond.initialized RX8, Cond.code yX8_get cX8_get 2 (some .int), Cond.fieldLink RX8 7 "MoleMaps$Row" "cells" "[I", Cond.methodLink RX10 322 yX5_galleriesAt, Cond.instanceMethod yX5_galleriesAt, Cond.selects RX5 yX5_galleriesAt yX5_galleriesAt, Cond.initialized RX5, Cond.code yX5_galleriesAt cX5_galleriesAt 5 (some .int), Cond.fieldLink RX5 29 "MoleMaps$Plan" "galleries" "I", Cond.methodLink RX5 68 yX5_isAt, Cond.instanceMethod yX5_isAt, Cond.selects RX5 yX5_isAt yX5_isAt, Cond.code yX5_isAt cX5_isAt 3 (some .boolean), Cond.fieldLink RX5 14 "MoleMaps$Plan" "one" "LMoleMaps$Row;", Cond.fieldLink RX5 20 "MoleMaps$Plan" "two" "LMoleMaps$Row;", Cond.methodLink RX5 48 yX8_get, Cond.methodLink RX10 206 yJ6_bitCount_0f7a4, Cond.static yJ6_bitCount_0f7a4, Cond.initialized RJ6, Cond.code yJ6_bitCount_0f7a4 cJ6_bitCount_0f7a4 1 (some .int), Cond.constant RJ6 265 (1431655765), Cond.constant RJ6 266 (858993459), Cond.constant RJ6 267 (252645135)]
def wsX10_dreamWalk_r3 : List Cond := [Cond.methodLink RX10 325 yX10_placeOfBit, Cond.static yX10_placeOfBit, Cond.code yX10_placeOfBit cX10_placeOfBit 4 (some .int), Cond.methodLink RX10 328 yJ6_numberOfTrailingZeros_0f7a4, Cond.static yJ6_numberOfTrailingZeros_0f7a4, Cond.code yJ6_numberOfTrailingZeros_0f7a4 cJ6_numberOfTrailingZeros_0f7a4 2 (some .int), Cond.constant RJ6 264 (65536), Cond.methodLink RX10 203 yX5_otherEnd, Cond.instanceMethod yX5_otherEnd, Cond.selects RX5 yX5_otherEnd yX5_otherEnd, Cond.code yX5_otherEnd cX5_otherEnd 3 (some .int), Cond.methodLink RX10 180 yX8_set, Cond.instanceMethod yX8_set, Cond.selects RX8 yX8_set yX8_set, Cond.code yX8_set cX8_set 3 none]
def wsX10_dreamWalk : List Cond := .code yX10_dreamWalk cX10_dreamWalk 5 none :: ((wsX10_dreamWalk_r1 ++ (wsX10_dreamWalk_r2 ++ wsX10_dreamWalk_r3)) ++ wsX100 ++ wsX10 ++ wsX30 ++ wsX20 ++ wsX80 ++ wsX50)
def wsX10_walks_r1 : List Cond := [Cond.fieldLink RX10 19 "MoleMaps" "plan" "LMoleMaps$Plan;", Cond.fieldLink RX10 57 "MoleMaps" "dream" "LMoleMaps$Moment;", Cond.fieldLink RX10 50 "MoleMaps" "now" "LMoleMaps$Moment;", Cond.fieldLink RX10 63 "MoleMaps" "draws" "LMoleMaps$Draws;", Cond.fieldLink RX10 262 "MoleMaps$Draws" "seed" "I", Cond.fieldLink RX10 43 "MoleMaps" "crew" "LMoleMaps$Crew;", Cond.fieldLink RX10 26 "MoleMaps" "air" "LMoleMaps$Air;", Cond.fieldLink RX10 164 "MoleMaps$Air" "breathing" "I", Cond.fieldLink RX10 190 "MoleMaps$Moment" "out" "I", Cond.fieldLink RX10 184 "MoleMaps$Moment" "place" "LMoleMaps$Row;", Cond.fieldLink RX10 167 "MoleMaps$Moment" "gas" "LMoleMaps$Row;", Cond.methodLink RX10 152 yX5_isRead, Cond.instanceMethod yX5_isRead, Cond.selects RX5 yX5_isRead yX5_isRead, Cond.initialized RX5, Cond.code yX5_isRead cX5_isRead 1 (some .boolean), Cond.fieldLink RX5 29 "MoleMaps$Plan" "galleries" "I", Cond.methodLink RX10 258 yX3_copyFrom, Cond.instanceMethod yX3_copyFrom, Cond.selects RX3 yX3_copyFrom yX3_copyFrom, Cond.initialized RX3, Cond.code yX3_copyFrom cX3_copyFrom 2 none, Cond.fieldLink RX3 23 "MoleMaps$Moment" "open" "I", Cond.fieldLink RX3 27 "MoleMaps$Moment" "moon" "Z"]
def wsX10_walks_r2 : List Cond := [Cond.fieldLink RX3 14 "MoleMaps$Moment" "gas" "LMoleMaps$Row;", Cond.fieldLink RX3 20 "MoleMaps$Moment" "place" "LMoleMaps$Row;", Cond.fieldLink RX3 34 "MoleMaps$Moment" "out" "I", Cond.fieldLink RX3 37 "MoleMaps$Moment" "gone" "I", Cond.methodLink RX3 40 yX8_copyFrom, Cond.instanceMethod yX8_copyFrom, Cond.selects RX8 yX8_copyFrom yX8_copyFrom, Cond.initialized RX8, Cond.code yX8_copyFrom cX8_copyFrom 3 none, Cond.fieldLink RX8 7 "MoleMaps$Row" "cells" "[I", Cond.methodLink RX8 13 yX8_get, Cond.instanceMethod yX8_get, Cond.selects RX8 yX8_get yX8_get, Cond.code yX8_get cX8_get 2 (some .int), Cond.methodLink RX10 265 yX10_dreamWalk, Cond.instanceMethod yX10_dreamWalk, Cond.selects RX10 yX10_dreamWalk yX10_dreamWalk, Cond.initialized RX10, Cond.code yX10_dreamWalk cX10_dreamWalk 5 none, Cond.fieldLink RX10 101 "MoleMaps$Crew" "size" "I", Cond.fieldLink RX10 146 "MoleMaps$Moment" "open" "I", Cond.methodLink RX10 319 yX2_draw, Cond.instanceMethod yX2_draw, Cond.selects RX2 yX2_draw yX2_draw]
def wsX10_walks_r3 : List Cond := [Cond.initialized RX2, Cond.code yX2_draw cX2_draw 2 (some .int), Cond.constantLong RX2 9 (1103515245), Cond.fieldLink RX2 11 "MoleMaps$Draws" "seed" "I", Cond.constantLong RX2 15 (12345), Cond.constantLong RX2 17 (2147483648), Cond.constant RX2 19 (65536), Cond.methodLink RX10 142 yX10_bit, Cond.static yX10_bit, Cond.code yX10_bit cX10_bit 2 (some .int), Cond.methodLink RX10 128 yX8_get, Cond.methodLink RX10 322 yX5_galleriesAt, Cond.instanceMethod yX5_galleriesAt, Cond.selects RX5 yX5_galleriesAt yX5_galleriesAt, Cond.code yX5_galleriesAt cX5_galleriesAt 5 (some .int), Cond.methodLink RX5 68 yX5_isAt, Cond.instanceMethod yX5_isAt, Cond.selects RX5 yX5_isAt yX5_isAt, Cond.code yX5_isAt cX5_isAt 3 (some .boolean), Cond.fieldLink RX5 14 "MoleMaps$Plan" "one" "LMoleMaps$Row;", Cond.fieldLink RX5 20 "MoleMaps$Plan" "two" "LMoleMaps$Row;", Cond.methodLink RX5 48 yX8_get, Cond.methodLink RX10 206 yJ6_bitCount_0f7a4, Cond.static yJ6_bitCount_0f7a4]
def wsX10_walks_r4 : List Cond := [Cond.initialized RJ6, Cond.code yJ6_bitCount_0f7a4 cJ6_bitCount_0f7a4 1 (some .int), Cond.constant RJ6 265 (1431655765), Cond.constant RJ6 266 (858993459), Cond.constant RJ6 267 (252645135), Cond.methodLink RX10 325 yX10_placeOfBit, Cond.static yX10_placeOfBit, Cond.code yX10_placeOfBit cX10_placeOfBit 4 (some .int), Cond.methodLink RX10 328 yJ6_numberOfTrailingZeros_0f7a4, Cond.static yJ6_numberOfTrailingZeros_0f7a4, Cond.code yJ6_numberOfTrailingZeros_0f7a4 cJ6_numberOfTrailingZeros_0f7a4 2 (some .int), Cond.constant RJ6 264 (65536), Cond.methodLink RX10 203 yX5_otherEnd, Cond.instanceMethod yX5_otherEnd, Cond.selects RX5 yX5_otherEnd yX5_otherEnd, Cond.code yX5_otherEnd cX5_otherEnd 3 (some .int), Cond.methodLink RX10 180 yX8_set, Cond.instanceMethod yX8_set, Cond.selects RX8 yX8_set yX8_set, Cond.code yX8_set cX8_set 3 none, Cond.methodLink RX10 211 yX3_passMinute, Cond.instanceMethod yX3_passMinute, Cond.selects RX3 yX3_passMinute yX3_passMinute, Cond.code yX3_passMinute cX3_passMinute 5 none]
def wsX10_walks_r5 : List Cond := [Cond.methodLink RX3 52 Lib.Math.min.name, Cond.static Lib.Math.min.name, Cond.initialized "java/lang/Math", Cond.code Lib.Math.min.name Lib.Math.min.code 2 (some .int), Cond.fieldLink RX3 61 "MoleMaps$Crew" "size" "I", Cond.methodLink RX3 48 yX8_get, Cond.methodLink RX3 57 yX8_set, Cond.methodLink RX3 66 yX1_bears, Cond.instanceMethod yX1_bears, Cond.selects RX1 yX1_bears yX1_bears, Cond.initialized RX1, Cond.code yX1_bears cX1_bears 2 (some .int), Cond.fieldLink RX1 14 "MoleMaps$Crew" "kinds" "LMoleMaps$Row;", Cond.methodLink RX1 24 yX8_get, Cond.methodLink RX10 187 yX1_has, Cond.instanceMethod yX1_has, Cond.selects RX1 yX1_has yX1_has, Cond.code yX1_has cX1_has 2 (some .boolean), Cond.fieldLink RX1 20 "MoleMaps$Crew" "size" "I", Cond.methodLink RX10 268 yX8_sum, Cond.instanceMethod yX8_sum, Cond.selects RX8 yX8_sum yX8_sum, Cond.code yX8_sum cX8_sum 3 (some .int)]
def wsX10_walks : List Cond := .code yX10_walks cX10_walks 5 (some .int) :: ((wsX10_walks_r1 ++ (wsX10_walks_r2 ++ (wsX10_walks_r3 ++ (wsX10_walks_r4 ++ wsX10_walks_r5)))) ++ wsX100 ++ wsX20 ++ wsX00 ++ wsX30 ++ wsX50 ++ wsX80 ++ wsX10)
def wsX10_count : List Cond := .code yX10_count cX10_count 2 (some .int) :: ([.fieldLink RX10 19 "MoleMaps" "plan" "LMoleMaps$Plan;", .fieldLink RX10 117 "MoleMaps$Plan" "galleries" "I", .fieldLink RX10 139 "MoleMaps$Plan" "doors" "I", .fieldLink RX10 277 "MoleMaps$Plan" "shafts" "I", .fieldLink RX10 43 "MoleMaps" "crew" "LMoleMaps$Crew;", .fieldLink RX10 101 "MoleMaps$Crew" "size" "I", .fieldLink RX10 50 "MoleMaps" "now" "LMoleMaps$Moment;", .fieldLink RX10 170 "MoleMaps$Moment" "moon" "Z", .fieldLink RX10 274 "MoleMaps$Moment" "gone" "I", .fieldLink RX10 10 "MoleMaps" "page" "LMoleMaps$Page;", .fieldLink RX10 82 "MoleMaps$Page" "length" "I", .fieldLink RX10 111 "MoleMaps" "minesRead" "I", .fieldLink RX10 221 "MoleMaps" "doorsDone" "I", .methodLink RX10 206 yJ6_bitCount_0f7a4, .static yJ6_bitCount_0f7a4, .initialized RJ6, .code yJ6_bitCount_0f7a4 cJ6_bitCount_0f7a4 1 (some .int), .constant RJ6 265 (1431655765), .constant RJ6 266 (858993459), .constant RJ6 267 (252645135)] ++ wsX100 ++ wsX50 ++ wsX10 ++ wsX30 ++ wsX40)
def wsJ9_min_7cf53 : List Cond := .code yJ9_min_7cf53 cJ9_min_7cf53 2 (some .int) :: ([])
def wsL_cell : List Cond := .code yL_cell cL_cell 2 (some .int) :: ([.constant RL 7 (747796405)])
def wsL_at : List Cond := .code yL_at cL_at 2 (some .int) :: ([])
def wsL_mineText : List Cond := .code yL_mineText cL_mineText 11 (some .int) :: ([.methodLink RL 8 yL_cell, .static yL_cell, .initialized RL, .code yL_cell cL_cell 2 (some .int), .constant RL 7 (747796405), .methodLink RL 14 yL_at, .static yL_at, .code yL_at cL_at 2 (some .int)])
def wsL_write_r1 : List Cond := [Cond.methodLink RL 18 yX10_letters, Cond.instanceMethod yX10_letters, Cond.selects RX10 yX10_letters yX10_letters, Cond.initialized RX10, Cond.code yX10_letters cX10_letters 4 (some .int), Cond.fieldLink RX10 10 "MoleMaps" "page" "LMoleMaps$Page;", Cond.fieldLink RX10 82 "MoleMaps$Page" "length" "I", Cond.methodLink RX10 78 yX4_lettersIn, Cond.static yX4_lettersIn, Cond.initialized RX4, Cond.code yX4_lettersIn cX4_lettersIn 5 (some .int), Cond.methodLink RX4 27 yX4_byteOf, Cond.static yX4_byteOf, Cond.code yX4_byteOf cX4_byteOf 3 (some .int), Cond.constantLong RX4 31 (255), Cond.methodLink RX10 85 yX4_append, Cond.instanceMethod yX4_append, Cond.selects RX4 yX4_append yX4_append, Cond.code yX4_append cX4_append 5 none, Cond.fieldLink RX4 14 "MoleMaps$Page" "letters" "LMoleMaps$Row;", Cond.fieldLink RX4 33 "MoleMaps$Page" "length" "I", Cond.methodLink RX4 37 yX8_set, Cond.instanceMethod yX8_set, Cond.selects RX8 yX8_set yX8_set]
def wsL_write_r2 : List Cond := [Cond.initialized RX8, Cond.code yX8_set cX8_set 3 none, Cond.fieldLink RX8 7 "MoleMaps$Row" "cells" "[I"]
def wsL_write : List Cond := .code yL_write cL_write 4 (some .boolean) :: ((wsL_write_r1 ++ wsL_write_r2) ++ wsX100 ++ wsX40 ++ wsX80)
def wsL_men_r1 : List Cond := [Cond.methodLink RL 8 yL_cell, Cond.static yL_cell, Cond.initialized RL, Cond.code yL_cell cL_cell 2 (some .int), Cond.constant RL 7 (747796405), Cond.methodLink RL 14 yL_at, Cond.static yL_at, Cond.code yL_at cL_at 2 (some .int), Cond.methodLink RL 24 yX10_man, Cond.instanceMethod yX10_man, Cond.selects RX10 yX10_man yX10_man, Cond.initialized RX10, Cond.code yX10_man cX10_man 4 (some .int), Cond.fieldLink RX10 19 "MoleMaps" "plan" "LMoleMaps$Plan;", Cond.fieldLink RX10 43 "MoleMaps" "crew" "LMoleMaps$Crew;", Cond.fieldLink RX10 101 "MoleMaps$Crew" "size" "I", Cond.fieldLink RX10 177 "MoleMaps$Crew" "kinds" "LMoleMaps$Row;", Cond.fieldLink RX10 50 "MoleMaps" "now" "LMoleMaps$Moment;", Cond.fieldLink RX10 184 "MoleMaps$Moment" "place" "LMoleMaps$Row;", Cond.methodLink RX10 152 yX5_isRead, Cond.instanceMethod yX5_isRead, Cond.selects RX5 yX5_isRead yX5_isRead, Cond.initialized RX5, Cond.code yX5_isRead cX5_isRead 1 (some .boolean)]
def wsL_men_r2 : List Cond := [Cond.fieldLink RX5 29 "MoleMaps$Plan" "galleries" "I", Cond.methodLink RX10 174 yX1_isKind, Cond.static yX1_isKind, Cond.initialized RX1, Cond.code yX1_isKind cX1_isKind 1 (some .boolean), Cond.methodLink RX10 155 yX10_isKnot, Cond.static yX10_isKnot, Cond.code yX10_isKnot cX10_isKnot 1 (some .boolean), Cond.methodLink RX10 180 yX8_set, Cond.instanceMethod yX8_set, Cond.selects RX8 yX8_set yX8_set, Cond.initialized RX8, Cond.code yX8_set cX8_set 3 none, Cond.fieldLink RX8 7 "MoleMaps$Row" "cells" "[I"]
def wsL_men : List Cond := .code yL_men cL_men 7 (some .boolean) :: ((wsL_men_r1 ++ wsL_men_r2) ++ wsX100 ++ wsX10 ++ wsX30 ++ wsX50 ++ wsX80)
def wsL_shaft : List Cond := .code yL_shaft cL_shaft 2 (some .int) :: ([])
def wsL_height : List Cond := .code yL_height cL_height 8 (some .int) :: ([.methodLink RL 27 yL_shaft, .static yL_shaft, .initialized RL, .code yL_shaft cL_shaft 2 (some .int)])
def wsL_into : List Cond := .code yL_into cL_into 4 (some .int) :: ([.methodLink RL 30 yL_height, .static yL_height, .initialized RL, .code yL_height cL_height 8 (some .int), .methodLink RL 27 yL_shaft, .static yL_shaft, .code yL_shaft cL_shaft 2 (some .int)])
def wsL_other : List Cond := .code yL_other cL_other 3 (some .int) :: ([])
def wsL_air : List Cond := .code yL_air cL_air 3 (some (.array .int)) :: ([.arrayClass .int, .methodLink RL 33 yL_into, .static yL_into, .initialized RL, .code yL_into cL_into 4 (some .int), .methodLink RL 30 yL_height, .static yL_height, .code yL_height cL_height 8 (some .int), .methodLink RL 27 yL_shaft, .static yL_shaft, .code yL_shaft cL_shaft 2 (some .int)])
def wsL_breathes : List Cond := .code yL_breathes cL_breathes 4 (some .boolean) :: ([])
def wsL_bears : List Cond := .code yL_bears cL_bears 1 (some .int) :: ([])
def wsL_minute : List Cond := .code yL_minute cL_minute 5 (some .int) :: ([.methodLink RL 36 yL_breathes, .static yL_breathes, .initialized RL, .code yL_breathes cL_breathes 4 (some .boolean), .methodLink RL 40 yL_bears, .static yL_bears, .code yL_bears cL_bears 1 (some .int)])
def wsL_stands_r1 : List Cond := [Cond.methodLink RL 44 yL_air, Cond.static yL_air, Cond.initialized RL, Cond.code yL_air cL_air 3 (some (.array .int)), Cond.arrayClass .int, Cond.methodLink RL 33 yL_into, Cond.static yL_into, Cond.code yL_into cL_into 4 (some .int), Cond.methodLink RL 30 yL_height, Cond.static yL_height, Cond.code yL_height cL_height 8 (some .int), Cond.methodLink RL 27 yL_shaft, Cond.static yL_shaft, Cond.code yL_shaft cL_shaft 2 (some .int), Cond.methodLink RL 48 yX10_gallery, Cond.instanceMethod yX10_gallery, Cond.selects RX10 yX10_gallery yX10_gallery, Cond.initialized RX10, Cond.code yX10_gallery cX10_gallery 3 (some .int), Cond.fieldLink RX10 19 "MoleMaps" "plan" "LMoleMaps$Plan;", Cond.fieldLink RX10 124 "MoleMaps$Plan" "one" "LMoleMaps$Row;", Cond.fieldLink RX10 134 "MoleMaps$Plan" "two" "LMoleMaps$Row;", Cond.fieldLink RX10 137 "MoleMaps$Plan" "length" "LMoleMaps$Row;", Cond.fieldLink RX10 139 "MoleMaps$Plan" "doors" "I"]
def wsL_stands_r2 : List Cond := [Cond.fieldLink RX10 50 "MoleMaps" "now" "LMoleMaps$Moment;", Cond.fieldLink RX10 146 "MoleMaps$Moment" "open" "I", Cond.fieldLink RX10 26 "MoleMaps" "air" "LMoleMaps$Air;", Cond.fieldLink RX10 149 "MoleMaps$Air" "into" "LMoleMaps$Row;", Cond.methodLink RX10 120 yX5_hasGallery, Cond.instanceMethod yX5_hasGallery, Cond.selects RX5 yX5_hasGallery yX5_hasGallery, Cond.initialized RX5, Cond.code yX5_hasGallery cX5_hasGallery 2 (some .boolean), Cond.fieldLink RX5 29 "MoleMaps$Plan" "galleries" "I", Cond.methodLink RX10 128 yX8_get, Cond.instanceMethod yX8_get, Cond.selects RX8 yX8_get yX8_get, Cond.initialized RX8, Cond.code yX8_get cX8_get 2 (some .int), Cond.fieldLink RX8 7 "MoleMaps$Row" "cells" "[I", Cond.methodLink RX10 142 yX10_bit, Cond.static yX10_bit, Cond.code yX10_bit cX10_bit 2 (some .int), Cond.methodLink RL 51 yX10_knot, Cond.instanceMethod yX10_knot, Cond.selects RX10 yX10_knot yX10_knot, Cond.code yX10_knot cX10_knot 3 (some .int), Cond.fieldLink RX10 158 "MoleMaps$Plan" "draught" "LMoleMaps$Row;"]
def wsL_stands_r3 : List Cond := [Cond.fieldLink RX10 161 "MoleMaps$Air" "height" "LMoleMaps$Row;", Cond.fieldLink RX10 164 "MoleMaps$Air" "breathing" "I", Cond.fieldLink RX10 167 "MoleMaps$Moment" "gas" "LMoleMaps$Row;", Cond.methodLink RX10 152 yX5_isRead, Cond.instanceMethod yX5_isRead, Cond.selects RX5 yX5_isRead yX5_isRead, Cond.code yX5_isRead cX5_isRead 1 (some .boolean), Cond.methodLink RX10 155 yX10_isKnot, Cond.static yX10_isKnot, Cond.code yX10_isKnot cX10_isKnot 1 (some .boolean), Cond.methodLink RL 36 yL_breathes, Cond.static yL_breathes, Cond.code yL_breathes cL_breathes 4 (some .boolean), Cond.methodLink RL 54 yX10_about, Cond.instanceMethod yX10_about, Cond.selects RX10 yX10_about yX10_about, Cond.code yX10_about cX10_about 3 (some .int), Cond.fieldLink RX10 43 "MoleMaps" "crew" "LMoleMaps$Crew;", Cond.fieldLink RX10 177 "MoleMaps$Crew" "kinds" "LMoleMaps$Row;", Cond.fieldLink RX10 184 "MoleMaps$Moment" "place" "LMoleMaps$Row;", Cond.fieldLink RX10 190 "MoleMaps$Moment" "out" "I", Cond.methodLink RX10 187 yX1_has, Cond.instanceMethod yX1_has, Cond.selects RX1 yX1_has yX1_has]
def wsL_stands_r4 : List Cond := [Cond.initialized RX1, Cond.code yX1_has cX1_has 2 (some .boolean), Cond.fieldLink RX1 20 "MoleMaps$Crew" "size" "I", Cond.methodLink RX10 193 yX1_bears, Cond.instanceMethod yX1_bears, Cond.selects RX1 yX1_bears yX1_bears, Cond.code yX1_bears cX1_bears 2 (some .int), Cond.fieldLink RX1 14 "MoleMaps$Crew" "kinds" "LMoleMaps$Row;", Cond.methodLink RX1 24 yX8_get, Cond.methodLink RL 40 yL_bears, Cond.static yL_bears, Cond.code yL_bears cL_bears 1 (some .int), Cond.methodLink RL 57 yX10_count, Cond.instanceMethod yX10_count, Cond.selects RX10 yX10_count yX10_count, Cond.code yX10_count cX10_count 2 (some .int), Cond.fieldLink RX10 117 "MoleMaps$Plan" "galleries" "I", Cond.fieldLink RX10 277 "MoleMaps$Plan" "shafts" "I", Cond.fieldLink RX10 101 "MoleMaps$Crew" "size" "I", Cond.fieldLink RX10 170 "MoleMaps$Moment" "moon" "Z", Cond.fieldLink RX10 274 "MoleMaps$Moment" "gone" "I", Cond.fieldLink RX10 10 "MoleMaps" "page" "LMoleMaps$Page;", Cond.fieldLink RX10 82 "MoleMaps$Page" "length" "I", Cond.fieldLink RX10 111 "MoleMaps" "minesRead" "I"]
def wsL_stands_r5 : List Cond := [Cond.fieldLink RX10 221 "MoleMaps" "doorsDone" "I", Cond.methodLink RX10 206 yJ6_bitCount_0f7a4, Cond.static yJ6_bitCount_0f7a4, Cond.initialized RJ6, Cond.code yJ6_bitCount_0f7a4 cJ6_bitCount_0f7a4 1 (some .int), Cond.constant RJ6 265 (1431655765), Cond.constant RJ6 266 (858993459), Cond.constant RJ6 267 (252645135)]
def wsL_stands : List Cond := .code yL_stands cL_stands 5 (some .boolean) :: ((wsL_stands_r1 ++ (wsL_stands_r2 ++ (wsL_stands_r3 ++ (wsL_stands_r4 ++ wsL_stands_r5)))) ++ wsX100 ++ wsX50 ++ wsX30 ++ wsX00 ++ wsX80 ++ wsX10 ++ wsX40)
def wsL_smoke_r1 : List Cond := [Cond.arrayClass .int, Cond.methodLink RL 44 yL_air, Cond.static yL_air, Cond.initialized RL, Cond.code yL_air cL_air 3 (some (.array .int)), Cond.methodLink RL 33 yL_into, Cond.static yL_into, Cond.code yL_into cL_into 4 (some .int), Cond.methodLink RL 30 yL_height, Cond.static yL_height, Cond.code yL_height cL_height 8 (some .int), Cond.methodLink RL 27 yL_shaft, Cond.static yL_shaft, Cond.code yL_shaft cL_shaft 2 (some .int), Cond.methodLink RL 97 yL_other, Cond.static yL_other, Cond.code yL_other cL_other 3 (some .int), Cond.methodLink RL 116 yX10_smelt, Cond.instanceMethod yX10_smelt, Cond.selects RX10 yX10_smelt yX10_smelt, Cond.initialized RX10, Cond.code yX10_smelt cX10_smelt 3 (some .int), Cond.fieldLink RX10 19 "MoleMaps" "plan" "LMoleMaps$Plan;", Cond.fieldLink RX10 36 "MoleMaps" "smoke" "LMoleMaps$Table;"]
def wsL_smoke_r2 : List Cond := [Cond.methodLink RX10 152 yX5_isRead, Cond.instanceMethod yX5_isRead, Cond.selects RX5 yX5_isRead yX5_isRead, Cond.initialized RX5, Cond.code yX5_isRead cX5_isRead 1 (some .boolean), Cond.fieldLink RX5 29 "MoleMaps$Plan" "galleries" "I", Cond.methodLink RX10 155 yX10_isKnot, Cond.static yX10_isKnot, Cond.code yX10_isKnot cX10_isKnot 1 (some .boolean), Cond.methodLink RX10 215 yX9_between, Cond.instanceMethod yX9_between, Cond.selects RX9 yX9_between yX9_between, Cond.initialized RX9, Cond.code yX9_between cX9_between 3 (some .int), Cond.fieldLink RX9 14 "MoleMaps$Table" "lengths" "LMoleMaps$Row;", Cond.methodLink RX9 27 yX8_get, Cond.instanceMethod yX8_get, Cond.selects RX8 yX8_get yX8_get, Cond.initialized RX8, Cond.code yX8_get cX8_get 2 (some .int), Cond.fieldLink RX8 7 "MoleMaps$Row" "cells" "[I", Cond.methodLink RL 119 yX10_wayOut, Cond.instanceMethod yX10_wayOut, Cond.selects RX10 yX10_wayOut yX10_wayOut]
def wsL_smoke_r3 : List Cond := [Cond.code yX10_wayOut cX10_wayOut 5 (some .int), Cond.fieldLink RX10 26 "MoleMaps" "air" "LMoleMaps$Air;", Cond.methodLink RX10 227 yX5_isShaft, Cond.instanceMethod yX5_isShaft, Cond.selects RX5 yX5_isShaft yX5_isShaft, Cond.code yX5_isShaft cX5_isShaft 2 (some .boolean), Cond.fieldLink RX5 33 "MoleMaps$Plan" "shafts" "I", Cond.static yX10_bit, Cond.code yX10_bit cX10_bit 2 (some .int), Cond.methodLink RX10 230 yX0_firstInto, Cond.instanceMethod yX0_firstInto, Cond.selects RX0 yX0_firstInto yX0_firstInto, Cond.initialized RX0, Cond.code yX0_firstInto cX0_firstInto 4 (some .int), Cond.fieldLink RX0 51 "MoleMaps$Plan" "galleries" "I", Cond.fieldLink RX0 20 "MoleMaps$Air" "into" "LMoleMaps$Row;", Cond.methodLink RX0 30 yX8_get, Cond.methodLink RX10 203 yX5_otherEnd, Cond.instanceMethod yX5_otherEnd, Cond.selects RX5 yX5_otherEnd yX5_otherEnd, Cond.code yX5_otherEnd cX5_otherEnd 3 (some .int), Cond.fieldLink RX5 14 "MoleMaps$Plan" "one" "LMoleMaps$Row;", Cond.fieldLink RX5 20 "MoleMaps$Plan" "two" "LMoleMaps$Row;", Cond.methodLink RX5 48 yX8_get]
def wsL_smoke : List Cond := .code yL_smoke cL_smoke 10 (some .boolean) :: ((wsL_smoke_r1 ++ (wsL_smoke_r2 ++ wsL_smoke_r3)) ++ wsX100 ++ wsX50 ++ wsX90 ++ wsX80 ++ wsX00)
def wsL_walks_r1 : List Cond := [Cond.arrayClass .int, Cond.constantLong RL 125 (1103515245), Cond.constantLong RL 127 (12345), Cond.constantLong RL 129 (2147483648), Cond.constantLong RL 131 (65536), Cond.methodLink RL 44 yL_air, Cond.static yL_air, Cond.initialized RL, Cond.code yL_air cL_air 3 (some (.array .int)), Cond.methodLink RL 33 yL_into, Cond.static yL_into, Cond.code yL_into cL_into 4 (some .int), Cond.methodLink RL 30 yL_height, Cond.static yL_height, Cond.code yL_height cL_height 8 (some .int), Cond.methodLink RL 27 yL_shaft, Cond.static yL_shaft, Cond.code yL_shaft cL_shaft 2 (some .int), Cond.methodLink RL 97 yL_other, Cond.static yL_other, Cond.code yL_other cL_other 3 (some .int), Cond.methodLink RL 104 yL_minute, Cond.static yL_minute, Cond.code yL_minute cL_minute 5 (some .int)]
def wsL_walks_r2 : List Cond := [Cond.methodLink RL 36 yL_breathes, Cond.static yL_breathes, Cond.code yL_breathes cL_breathes 4 (some .boolean), Cond.methodLink RL 40 yL_bears, Cond.static yL_bears, Cond.code yL_bears cL_bears 1 (some .int), Cond.methodLink RL 122 yX10_walks, Cond.instanceMethod yX10_walks, Cond.selects RX10 yX10_walks yX10_walks, Cond.initialized RX10, Cond.code yX10_walks cX10_walks 5 (some .int), Cond.fieldLink RX10 19 "MoleMaps" "plan" "LMoleMaps$Plan;", Cond.fieldLink RX10 57 "MoleMaps" "dream" "LMoleMaps$Moment;", Cond.fieldLink RX10 50 "MoleMaps" "now" "LMoleMaps$Moment;", Cond.fieldLink RX10 63 "MoleMaps" "draws" "LMoleMaps$Draws;", Cond.fieldLink RX10 262 "MoleMaps$Draws" "seed" "I", Cond.fieldLink RX10 43 "MoleMaps" "crew" "LMoleMaps$Crew;", Cond.fieldLink RX10 26 "MoleMaps" "air" "LMoleMaps$Air;", Cond.fieldLink RX10 164 "MoleMaps$Air" "breathing" "I", Cond.fieldLink RX10 190 "MoleMaps$Moment" "out" "I", Cond.fieldLink RX10 184 "MoleMaps$Moment" "place" "LMoleMaps$Row;", Cond.fieldLink RX10 167 "MoleMaps$Moment" "gas" "LMoleMaps$Row;", Cond.methodLink RX10 152 yX5_isRead, Cond.instanceMethod yX5_isRead]
def wsL_walks_r3 : List Cond := [Cond.selects RX5 yX5_isRead yX5_isRead, Cond.initialized RX5, Cond.code yX5_isRead cX5_isRead 1 (some .boolean), Cond.fieldLink RX5 29 "MoleMaps$Plan" "galleries" "I", Cond.methodLink RX10 258 yX3_copyFrom, Cond.instanceMethod yX3_copyFrom, Cond.selects RX3 yX3_copyFrom yX3_copyFrom, Cond.initialized RX3, Cond.code yX3_copyFrom cX3_copyFrom 2 none, Cond.fieldLink RX3 23 "MoleMaps$Moment" "open" "I", Cond.fieldLink RX3 27 "MoleMaps$Moment" "moon" "Z", Cond.fieldLink RX3 14 "MoleMaps$Moment" "gas" "LMoleMaps$Row;", Cond.fieldLink RX3 20 "MoleMaps$Moment" "place" "LMoleMaps$Row;", Cond.fieldLink RX3 34 "MoleMaps$Moment" "out" "I", Cond.fieldLink RX3 37 "MoleMaps$Moment" "gone" "I", Cond.methodLink RX3 40 yX8_copyFrom, Cond.instanceMethod yX8_copyFrom, Cond.selects RX8 yX8_copyFrom yX8_copyFrom, Cond.initialized RX8, Cond.code yX8_copyFrom cX8_copyFrom 3 none, Cond.fieldLink RX8 7 "MoleMaps$Row" "cells" "[I", Cond.methodLink RX8 13 yX8_get, Cond.instanceMethod yX8_get, Cond.selects RX8 yX8_get yX8_get]
def wsL_walks_r4 : List Cond := [Cond.code yX8_get cX8_get 2 (some .int), Cond.methodLink RX10 265 yX10_dreamWalk, Cond.instanceMethod yX10_dreamWalk, Cond.selects RX10 yX10_dreamWalk yX10_dreamWalk, Cond.code yX10_dreamWalk cX10_dreamWalk 5 none, Cond.fieldLink RX10 101 "MoleMaps$Crew" "size" "I", Cond.fieldLink RX10 146 "MoleMaps$Moment" "open" "I", Cond.methodLink RX10 319 yX2_draw, Cond.instanceMethod yX2_draw, Cond.selects RX2 yX2_draw yX2_draw, Cond.initialized RX2, Cond.code yX2_draw cX2_draw 2 (some .int), Cond.constantLong RX2 9 (1103515245), Cond.fieldLink RX2 11 "MoleMaps$Draws" "seed" "I", Cond.constantLong RX2 15 (12345), Cond.constantLong RX2 17 (2147483648), Cond.constant RX2 19 (65536), Cond.methodLink RX10 142 yX10_bit, Cond.static yX10_bit, Cond.code yX10_bit cX10_bit 2 (some .int), Cond.methodLink RX10 128 yX8_get, Cond.methodLink RX10 322 yX5_galleriesAt, Cond.instanceMethod yX5_galleriesAt, Cond.selects RX5 yX5_galleriesAt yX5_galleriesAt]
def wsL_walks_r5 : List Cond := [Cond.code yX5_galleriesAt cX5_galleriesAt 5 (some .int), Cond.methodLink RX5 68 yX5_isAt, Cond.instanceMethod yX5_isAt, Cond.selects RX5 yX5_isAt yX5_isAt, Cond.code yX5_isAt cX5_isAt 3 (some .boolean), Cond.fieldLink RX5 14 "MoleMaps$Plan" "one" "LMoleMaps$Row;", Cond.fieldLink RX5 20 "MoleMaps$Plan" "two" "LMoleMaps$Row;", Cond.methodLink RX5 48 yX8_get, Cond.methodLink RX10 206 yJ6_bitCount_0f7a4, Cond.static yJ6_bitCount_0f7a4, Cond.initialized RJ6, Cond.code yJ6_bitCount_0f7a4 cJ6_bitCount_0f7a4 1 (some .int), Cond.constant RJ6 265 (1431655765), Cond.constant RJ6 266 (858993459), Cond.constant RJ6 267 (252645135), Cond.methodLink RX10 325 yX10_placeOfBit, Cond.static yX10_placeOfBit, Cond.code yX10_placeOfBit cX10_placeOfBit 4 (some .int), Cond.methodLink RX10 328 yJ6_numberOfTrailingZeros_0f7a4, Cond.static yJ6_numberOfTrailingZeros_0f7a4, Cond.code yJ6_numberOfTrailingZeros_0f7a4 cJ6_numberOfTrailingZeros_0f7a4 2 (some .int), Cond.constant RJ6 264 (65536), Cond.methodLink RX10 203 yX5_otherEnd, Cond.instanceMethod yX5_otherEnd]
def wsL_walks_r6 : List Cond := [Cond.selects RX5 yX5_otherEnd yX5_otherEnd, Cond.code yX5_otherEnd cX5_otherEnd 3 (some .int), Cond.methodLink RX10 180 yX8_set, Cond.instanceMethod yX8_set, Cond.selects RX8 yX8_set yX8_set, Cond.code yX8_set cX8_set 3 none, Cond.methodLink RX10 211 yX3_passMinute, Cond.instanceMethod yX3_passMinute, Cond.selects RX3 yX3_passMinute yX3_passMinute, Cond.code yX3_passMinute cX3_passMinute 5 none, Cond.methodLink RX3 52 Lib.Math.min.name, Cond.static Lib.Math.min.name, Cond.initialized "java/lang/Math", Cond.code Lib.Math.min.name Lib.Math.min.code 2 (some .int), Cond.fieldLink RX3 61 "MoleMaps$Crew" "size" "I", Cond.methodLink RX3 48 yX8_get, Cond.methodLink RX3 57 yX8_set, Cond.methodLink RX3 66 yX1_bears, Cond.instanceMethod yX1_bears, Cond.selects RX1 yX1_bears yX1_bears, Cond.initialized RX1, Cond.code yX1_bears cX1_bears 2 (some .int), Cond.fieldLink RX1 14 "MoleMaps$Crew" "kinds" "LMoleMaps$Row;", Cond.methodLink RX1 24 yX8_get]
def wsL_walks_r7 : List Cond := [Cond.methodLink RX10 187 yX1_has, Cond.instanceMethod yX1_has, Cond.selects RX1 yX1_has yX1_has, Cond.code yX1_has cX1_has 2 (some .boolean), Cond.fieldLink RX1 20 "MoleMaps$Crew" "size" "I", Cond.methodLink RX10 268 yX8_sum, Cond.instanceMethod yX8_sum, Cond.selects RX8 yX8_sum yX8_sum, Cond.code yX8_sum cX8_sum 3 (some .int)]
def wsL_walks : List Cond := .code yL_walks cL_walks 15 (some .boolean) :: ((wsL_walks_r1 ++ (wsL_walks_r2 ++ (wsL_walks_r3 ++ (wsL_walks_r4 ++ (wsL_walks_r5 ++ (wsL_walks_r6 ++ wsL_walks_r7)))))) ++ wsX100 ++ wsX20 ++ wsX00 ++ wsX30 ++ wsX50 ++ wsX80 ++ wsX10)
def wsL_law_r1 : List Cond := [Cond.classLink RL 19 RX10, Cond.instantiable RX10 15, Cond.initialized RX10, Cond.arrayClass .int, Cond.constant RL 111 (2147483647), Cond.methodLink RL 60 yX10_init, Cond.instanceMethod yX10_init, Cond.code yX10_init cX10_init 1 none, Cond.methodLink RX10 1 objectInit, Cond.instanceMethod objectInit, Cond.code objectInit ⟨#[0xb1]⟩ 1 none, Cond.classLink RX10 7 RX4, Cond.instantiable RX4 3, Cond.initialized RX4, Cond.fieldLink RX10 10 "MoleMaps" "page" "LMoleMaps$Page;", Cond.classLink RX10 16 RX5, Cond.instantiable RX5 7, Cond.initialized RX5, Cond.fieldLink RX10 19 "MoleMaps" "plan" "LMoleMaps$Plan;", Cond.classLink RX10 23 RX0, Cond.instantiable RX0 4, Cond.initialized RX0, Cond.fieldLink RX10 26 "MoleMaps" "air" "LMoleMaps$Air;", Cond.fieldLink RX10 30 "MoleMaps" "trial" "LMoleMaps$Air;"]
def wsL_law_r2 : List Cond := [Cond.classLink RX10 33 RX9, Cond.instantiable RX9 1, Cond.initialized RX9, Cond.fieldLink RX10 36 "MoleMaps" "smoke" "LMoleMaps$Table;", Cond.classLink RX10 40 RX1, Cond.instantiable RX1 2, Cond.initialized RX1, Cond.fieldLink RX10 43 "MoleMaps" "crew" "LMoleMaps$Crew;", Cond.classLink RX10 47 RX3, Cond.instantiable RX3 6, Cond.initialized RX3, Cond.fieldLink RX10 50 "MoleMaps" "now" "LMoleMaps$Moment;", Cond.fieldLink RX10 54 "MoleMaps" "kept" "LMoleMaps$Moment;", Cond.fieldLink RX10 57 "MoleMaps" "dream" "LMoleMaps$Moment;", Cond.classLink RX10 60 RX2, Cond.instantiable RX2 1, Cond.initialized RX2, Cond.fieldLink RX10 63 "MoleMaps" "draws" "LMoleMaps$Draws;", Cond.classLink RX10 67 RX7, Cond.instantiable RX7 5, Cond.initialized RX7, Cond.fieldLink RX10 70 "MoleMaps" "rescuers" "LMoleMaps$Rescue;", Cond.fieldLink RX10 74 "MoleMaps" "keptMine" "I", Cond.instanceMethod yX4_init]
def wsL_law_r3 : List Cond := [Cond.code yX4_init cX4_init 1 none, Cond.methodLink RX4 3 objectInit, Cond.classLink RX4 9 RX8, Cond.instantiable RX8 1, Cond.initialized RX8, Cond.fieldLink RX4 14 "MoleMaps$Page" "letters" "LMoleMaps$Row;", Cond.classLink RX4 20 RX6, Cond.instantiable RX6 4, Cond.initialized RX6, Cond.fieldLink RX4 23 "MoleMaps$Page" "reader" "LMoleMaps$Reader;", Cond.methodLink RX4 11 yX8_init, Cond.instanceMethod yX8_init, Cond.code yX8_init cX8_init 2 none, Cond.methodLink RX8 1 objectInit, Cond.fieldLink RX8 7 "MoleMaps$Row" "cells" "[I", Cond.instanceMethod yX6_init, Cond.code yX6_init cX6_init 1 none, Cond.methodLink RX6 3 objectInit, Cond.instanceMethod yX5_init, Cond.code yX5_init cX5_init 1 none, Cond.methodLink RX5 3 objectInit, Cond.classLink RX5 9 RX8, Cond.fieldLink RX5 14 "MoleMaps$Plan" "one" "LMoleMaps$Row;", Cond.fieldLink RX5 20 "MoleMaps$Plan" "two" "LMoleMaps$Row;"]
def wsL_law_r4 : List Cond := [Cond.fieldLink RX5 23 "MoleMaps$Plan" "length" "LMoleMaps$Row;", Cond.fieldLink RX5 26 "MoleMaps$Plan" "draught" "LMoleMaps$Row;", Cond.methodLink RX5 11 yX8_init, Cond.instanceMethod yX0_init, Cond.code yX0_init cX0_init 1 none, Cond.methodLink RX0 3 objectInit, Cond.classLink RX0 9 RX8, Cond.fieldLink RX0 14 "MoleMaps$Air" "height" "LMoleMaps$Row;", Cond.fieldLink RX0 20 "MoleMaps$Air" "into" "LMoleMaps$Row;", Cond.fieldLink RX0 23 "MoleMaps$Air" "nearest" "LMoleMaps$Row;", Cond.methodLink RX0 11 yX8_init, Cond.instanceMethod yX9_init, Cond.code yX9_init cX9_init 1 none, Cond.methodLink RX9 3 objectInit, Cond.classLink RX9 9 RX8, Cond.fieldLink RX9 14 "MoleMaps$Table" "lengths" "LMoleMaps$Row;", Cond.methodLink RX9 11 yX8_init, Cond.instanceMethod yX1_init, Cond.code yX1_init cX1_init 1 none, Cond.methodLink RX1 3 objectInit, Cond.classLink RX1 9 RX8, Cond.fieldLink RX1 14 "MoleMaps$Crew" "kinds" "LMoleMaps$Row;", Cond.methodLink RX1 11 yX8_init, Cond.instanceMethod yX3_init]
def wsL_law_r5 : List Cond := [Cond.code yX3_init cX3_init 1 none, Cond.methodLink RX3 3 objectInit, Cond.classLink RX3 9 RX8, Cond.fieldLink RX3 14 "MoleMaps$Moment" "gas" "LMoleMaps$Row;", Cond.fieldLink RX3 20 "MoleMaps$Moment" "place" "LMoleMaps$Row;", Cond.methodLink RX3 11 yX8_init, Cond.instanceMethod yX2_init, Cond.code yX2_init cX2_init 1 none, Cond.methodLink RX2 1 objectInit, Cond.instanceMethod yX7_init, Cond.code yX7_init cX7_init 1 none, Cond.methodLink RX7 3 objectInit, Cond.classLink RX7 9 RX8, Cond.fieldLink RX7 14 "MoleMaps$Rescue" "best" "LMoleMaps$Row;", Cond.fieldLink RX7 20 "MoleMaps$Rescue" "order" "LMoleMaps$Row;", Cond.classLink RX7 23 RX9, Cond.fieldLink RX7 26 "MoleMaps$Rescue" "ways" "LMoleMaps$Table;", Cond.methodLink RX7 11 yX8_init, Cond.methodLink RL 61 yL_mineText, Cond.static yL_mineText, Cond.initialized RL, Cond.code yL_mineText cL_mineText 11 (some .int), Cond.methodLink RL 8 yL_cell, Cond.static yL_cell]
def wsL_law_r6 : List Cond := [Cond.code yL_cell cL_cell 2 (some .int), Cond.constant RL 7 (747796405), Cond.methodLink RL 14 yL_at, Cond.static yL_at, Cond.code yL_at cL_at 2 (some .int), Cond.methodLink RL 65 yL_write, Cond.static yL_write, Cond.code yL_write cL_write 4 (some .boolean), Cond.methodLink RL 18 yX10_letters, Cond.instanceMethod yX10_letters, Cond.selects RX10 yX10_letters yX10_letters, Cond.code yX10_letters cX10_letters 4 (some .int), Cond.fieldLink RX10 82 "MoleMaps$Page" "length" "I", Cond.methodLink RX10 78 yX4_lettersIn, Cond.static yX4_lettersIn, Cond.code yX4_lettersIn cX4_lettersIn 5 (some .int), Cond.methodLink RX4 27 yX4_byteOf, Cond.static yX4_byteOf, Cond.code yX4_byteOf cX4_byteOf 3 (some .int), Cond.constantLong RX4 31 (255), Cond.methodLink RX10 85 yX4_append, Cond.instanceMethod yX4_append, Cond.selects RX4 yX4_append yX4_append, Cond.code yX4_append cX4_append 5 none]
def wsL_law_r7 : List Cond := [Cond.fieldLink RX4 33 "MoleMaps$Page" "length" "I", Cond.methodLink RX4 37 yX8_set, Cond.instanceMethod yX8_set, Cond.selects RX8 yX8_set yX8_set, Cond.code yX8_set cX8_set 3 none, Cond.methodLink RL 69 yX10_fault, Cond.instanceMethod yX10_fault, Cond.selects RX10 yX10_fault yX10_fault, Cond.code yX10_fault cX10_fault 1 (some .int), Cond.methodLink RX10 89 yX4_firstFault, Cond.instanceMethod yX4_firstFault, Cond.selects RX4 yX4_firstFault yX4_firstFault, Cond.code yX4_firstFault cX4_firstFault 2 (some .int), Cond.methodLink RX4 41 yX6_start, Cond.instanceMethod yX6_start, Cond.selects RX6 yX6_start yX6_start, Cond.code yX6_start cX6_start 1 none, Cond.fieldLink RX6 11 "MoleMaps$Reader" "due" "I", Cond.fieldLink RX6 15 "MoleMaps$Reader" "galleries" "I", Cond.fieldLink RX6 18 "MoleMaps$Reader" "shafts" "I", Cond.methodLink RX4 44 yX8_get, Cond.instanceMethod yX8_get, Cond.selects RX8 yX8_get yX8_get, Cond.code yX8_get cX8_get 2 (some .int)]
def wsL_law_r8 : List Cond := [Cond.methodLink RX4 48 yX6_takes, Cond.instanceMethod yX6_takes, Cond.selects RX6 yX6_takes yX6_takes, Cond.code yX6_takes cX6_takes 2 (some .boolean), Cond.fieldLink RX6 21 "MoleMaps$Reader" "first" "I", Cond.static yX10_isKnot, Cond.code yX10_isKnot cX10_isKnot 1 (some .boolean), Cond.methodLink RX6 28 yX6_takesBreak, Cond.instanceMethod yX6_takesBreak, Cond.selects RX6 yX6_takesBreak yX6_takesBreak, Cond.code yX6_takesBreak cX6_takesBreak 2 (some .boolean), Cond.methodLink RX6 31 yX6_takesShaft, Cond.instanceMethod yX6_takesShaft, Cond.selects RX6 yX6_takesShaft yX6_takesShaft, Cond.code yX6_takesShaft cX6_takesShaft 2 (some .boolean), Cond.static yX10_bit, Cond.code yX10_bit cX10_bit 2 (some .int), Cond.methodLink RL 73 yX10_mine, Cond.instanceMethod yX10_mine, Cond.selects RX10 yX10_mine yX10_mine, Cond.code yX10_mine cX10_mine 1 (some .int), Cond.fieldLink RX10 101 "MoleMaps$Crew" "size" "I", Cond.fieldLink RX10 111 "MoleMaps" "minesRead" "I", Cond.fieldLink RX10 117 "MoleMaps$Plan" "galleries" "I"]
def wsL_law_r9 : List Cond := [Cond.methodLink RX10 93 yX4_isMine, Cond.instanceMethod yX4_isMine, Cond.selects RX4 yX4_isMine yX4_isMine, Cond.code yX4_isMine cX4_isMine 1 (some .boolean), Cond.methodLink RX4 52 yX4_firstFault, Cond.methodLink RX4 56 yX6_mayEnd, Cond.instanceMethod yX6_mayEnd, Cond.selects RX6 yX6_mayEnd yX6_mayEnd, Cond.code yX6_mayEnd cX6_mayEnd 1 (some .boolean), Cond.methodLink RX6 34 yJ6_bitCount_0f7a4, Cond.static yJ6_bitCount_0f7a4, Cond.initialized RJ6, Cond.code yJ6_bitCount_0f7a4 cJ6_bitCount_0f7a4 1 (some .int), Cond.constant RJ6 265 (1431655765), Cond.constant RJ6 266 (858993459), Cond.constant RJ6 267 (252645135), Cond.methodLink RX10 97 yX5_readFrom, Cond.instanceMethod yX5_readFrom, Cond.selects RX5 yX5_readFrom yX5_readFrom, Cond.code yX5_readFrom cX5_readFrom 4 none, Cond.fieldLink RX5 29 "MoleMaps$Plan" "galleries" "I", Cond.fieldLink RX5 40 "MoleMaps$Plan" "doors" "I", Cond.fieldLink RX5 43 "MoleMaps$Page" "letters" "LMoleMaps$Row;", Cond.methodLink RX5 48 yX8_get]
def wsL_law_r10 : List Cond := [Cond.methodLink RX5 52 yX4_digit, Cond.instanceMethod yX4_digit, Cond.selects RX4 yX4_digit yX4_digit, Cond.code yX4_digit cX4_digit 2 (some .int), Cond.methodLink RX5 55 yX8_set, Cond.methodLink RX5 59 yX5_readShafts, Cond.instanceMethod yX5_readShafts, Cond.selects RX5 yX5_readShafts yX5_readShafts, Cond.code yX5_readShafts cX5_readShafts 4 none, Cond.fieldLink RX5 33 "MoleMaps$Plan" "shafts" "I", Cond.fieldLink RX5 66 "MoleMaps$Page" "length" "I", Cond.methodLink RX5 63 yX8_fill, Cond.instanceMethod yX8_fill, Cond.selects RX8 yX8_fill yX8_fill, Cond.code yX8_fill cX8_fill 3 none, Cond.methodLink RX10 104 yX5_allGalleries, Cond.instanceMethod yX5_allGalleries, Cond.selects RX5 yX5_allGalleries yX5_allGalleries, Cond.code yX5_allGalleries cX5_allGalleries 1 (some .int), Cond.methodLink RX10 107 yX3_begin, Cond.instanceMethod yX3_begin, Cond.selects RX3 yX3_begin yX3_begin, Cond.code yX3_begin cX3_begin 2 none, Cond.fieldLink RX3 23 "MoleMaps$Moment" "open" "I"]
def wsL_law_r11 : List Cond := [Cond.fieldLink RX3 27 "MoleMaps$Moment" "moon" "Z", Cond.fieldLink RX3 34 "MoleMaps$Moment" "out" "I", Cond.fieldLink RX3 37 "MoleMaps$Moment" "gone" "I", Cond.methodLink RX3 31 yX8_fill, Cond.methodLink RX10 114 yX10_windChanges, Cond.instanceMethod yX10_windChanges, Cond.selects RX10 yX10_windChanges yX10_windChanges, Cond.code yX10_windChanges cX10_windChanges 1 none, Cond.fieldLink RX10 146 "MoleMaps$Moment" "open" "I", Cond.fieldLink RX10 170 "MoleMaps$Moment" "moon" "Z", Cond.methodLink RX10 305 yX0_blow, Cond.instanceMethod yX0_blow, Cond.selects RX0 yX0_blow yX0_blow, Cond.code yX0_blow cX0_blow 5 none, Cond.methodLink RX0 26 yX0_findNearest, Cond.instanceMethod yX0_findNearest, Cond.selects RX0 yX0_findNearest yX0_findNearest, Cond.code yX0_findNearest cX0_findNearest 7 none, Cond.fieldLink RX0 45 "MoleMaps$Plan" "shafts" "I", Cond.fieldLink RX0 51 "MoleMaps$Plan" "galleries" "I", Cond.fieldLink RX0 58 "MoleMaps$Plan" "one" "LMoleMaps$Row;", Cond.fieldLink RX0 61 "MoleMaps$Plan" "two" "LMoleMaps$Row;", Cond.methodLink RX0 38 yX8_set, Cond.methodLink RX0 30 yX8_get]
def wsL_law_r12 : List Cond := [Cond.methodLink RX0 64 yX0_spread, Cond.instanceMethod yX0_spread, Cond.selects RX0 yX0_spread yX0_spread, Cond.code yX0_spread cX0_spread 4 (some .int), Cond.methodLink RX0 34 yX0_heightOf, Cond.static yX0_heightOf, Cond.code yX0_heightOf cX0_heightOf 6 (some .int), Cond.methodLink RX0 68 yJ6_bitCount_0f7a4, Cond.methodLink RX0 73 yX5_shaftHeight, Cond.instanceMethod yX5_shaftHeight, Cond.selects RX5 yX5_shaftHeight yX5_shaftHeight, Cond.code yX5_shaftHeight cX5_shaftHeight 4 (some .int), Cond.methodLink RX0 42 yX0_findFlows, Cond.instanceMethod yX0_findFlows, Cond.selects RX0 yX0_findFlows yX0_findFlows, Cond.code yX0_findFlows cX0_findFlows 7 none, Cond.fieldLink RX0 77 "MoleMaps$Air" "breathing" "I", Cond.methodLink RX0 80 yX0_lower, Cond.instanceMethod yX0_lower, Cond.selects RX0 yX0_lower yX0_lower, Cond.code yX0_lower cX0_lower 5 (some .int), Cond.methodLink RX10 309 yX0_carrySmoke, Cond.instanceMethod yX0_carrySmoke, Cond.selects RX0 yX0_carrySmoke yX0_carrySmoke]
def wsL_law_r13 : List Cond := [Cond.code yX0_carrySmoke cX0_carrySmoke 5 none, Cond.fieldLink RX0 91 "MoleMaps$Plan" "length" "LMoleMaps$Row;", Cond.methodLink RX0 83 yX9_clear, Cond.instanceMethod yX9_clear, Cond.selects RX9 yX9_clear yX9_clear, Cond.code yX9_clear cX9_clear 2 none, Cond.methodLink RX9 20 yX8_fill, Cond.methodLink RX9 23 yX8_set, Cond.methodLink RX0 88 yX5_otherEnd, Cond.instanceMethod yX5_otherEnd, Cond.selects RX5 yX5_otherEnd yX5_otherEnd, Cond.code yX5_otherEnd cX5_otherEnd 3 (some .int), Cond.methodLink RX0 94 yX9_link, Cond.instanceMethod yX9_link, Cond.selects RX9 yX9_link yX9_link, Cond.code yX9_link cX9_link 5 none, Cond.methodLink RX9 31 yX9_between, Cond.instanceMethod yX9_between, Cond.selects RX9 yX9_between yX9_between, Cond.code yX9_between cX9_between 3 (some .int), Cond.methodLink RX9 27 yX8_get, Cond.methodLink RX0 98 yX9_joinWays, Cond.instanceMethod yX9_joinWays, Cond.selects RX9 yX9_joinWays yX9_joinWays]
def wsL_law_r14 : List Cond := [Cond.code yX9_joinWays cX9_joinWays 6 none, Cond.methodLink RX9 35 yX9_link, Cond.methodLink RL 76 yL_men, Cond.static yL_men, Cond.code yL_men cL_men 7 (some .boolean), Cond.methodLink RL 24 yX10_man, Cond.instanceMethod yX10_man, Cond.selects RX10 yX10_man yX10_man, Cond.code yX10_man cX10_man 4 (some .int), Cond.fieldLink RX10 177 "MoleMaps$Crew" "kinds" "LMoleMaps$Row;", Cond.fieldLink RX10 184 "MoleMaps$Moment" "place" "LMoleMaps$Row;", Cond.methodLink RX10 152 yX5_isRead, Cond.instanceMethod yX5_isRead, Cond.selects RX5 yX5_isRead yX5_isRead, Cond.code yX5_isRead cX5_isRead 1 (some .boolean), Cond.methodLink RX10 174 yX1_isKind, Cond.static yX1_isKind, Cond.code yX1_isKind cX1_isKind 1 (some .boolean), Cond.methodLink RX10 155 yX10_isKnot, Cond.methodLink RX10 180 yX8_set, Cond.methodLink RL 80 yL_stands, Cond.static yL_stands, Cond.code yL_stands cL_stands 5 (some .boolean), Cond.methodLink RL 44 yL_air]
def wsL_law_r15 : List Cond := [Cond.static yL_air, Cond.code yL_air cL_air 3 (some (.array .int)), Cond.methodLink RL 33 yL_into, Cond.static yL_into, Cond.code yL_into cL_into 4 (some .int), Cond.methodLink RL 30 yL_height, Cond.static yL_height, Cond.code yL_height cL_height 8 (some .int), Cond.methodLink RL 27 yL_shaft, Cond.static yL_shaft, Cond.code yL_shaft cL_shaft 2 (some .int), Cond.methodLink RL 48 yX10_gallery, Cond.instanceMethod yX10_gallery, Cond.selects RX10 yX10_gallery yX10_gallery, Cond.code yX10_gallery cX10_gallery 3 (some .int), Cond.fieldLink RX10 124 "MoleMaps$Plan" "one" "LMoleMaps$Row;", Cond.fieldLink RX10 134 "MoleMaps$Plan" "two" "LMoleMaps$Row;", Cond.fieldLink RX10 137 "MoleMaps$Plan" "length" "LMoleMaps$Row;", Cond.fieldLink RX10 139 "MoleMaps$Plan" "doors" "I", Cond.fieldLink RX10 149 "MoleMaps$Air" "into" "LMoleMaps$Row;", Cond.methodLink RX10 120 yX5_hasGallery, Cond.instanceMethod yX5_hasGallery, Cond.selects RX5 yX5_hasGallery yX5_hasGallery, Cond.code yX5_hasGallery cX5_hasGallery 2 (some .boolean)]
def wsL_law_r16 : List Cond := [Cond.methodLink RX10 128 yX8_get, Cond.methodLink RX10 142 yX10_bit, Cond.methodLink RL 51 yX10_knot, Cond.instanceMethod yX10_knot, Cond.selects RX10 yX10_knot yX10_knot, Cond.code yX10_knot cX10_knot 3 (some .int), Cond.fieldLink RX10 158 "MoleMaps$Plan" "draught" "LMoleMaps$Row;", Cond.fieldLink RX10 161 "MoleMaps$Air" "height" "LMoleMaps$Row;", Cond.fieldLink RX10 164 "MoleMaps$Air" "breathing" "I", Cond.fieldLink RX10 167 "MoleMaps$Moment" "gas" "LMoleMaps$Row;", Cond.methodLink RL 36 yL_breathes, Cond.static yL_breathes, Cond.code yL_breathes cL_breathes 4 (some .boolean), Cond.methodLink RL 54 yX10_about, Cond.instanceMethod yX10_about, Cond.selects RX10 yX10_about yX10_about, Cond.code yX10_about cX10_about 3 (some .int), Cond.fieldLink RX10 190 "MoleMaps$Moment" "out" "I", Cond.methodLink RX10 187 yX1_has, Cond.instanceMethod yX1_has, Cond.selects RX1 yX1_has yX1_has, Cond.code yX1_has cX1_has 2 (some .boolean), Cond.fieldLink RX1 20 "MoleMaps$Crew" "size" "I", Cond.methodLink RX10 193 yX1_bears]
def wsL_law_r17 : List Cond := [Cond.instanceMethod yX1_bears, Cond.selects RX1 yX1_bears yX1_bears, Cond.code yX1_bears cX1_bears 2 (some .int), Cond.methodLink RX1 24 yX8_get, Cond.methodLink RL 40 yL_bears, Cond.static yL_bears, Cond.code yL_bears cL_bears 1 (some .int), Cond.methodLink RL 57 yX10_count, Cond.instanceMethod yX10_count, Cond.selects RX10 yX10_count yX10_count, Cond.code yX10_count cX10_count 2 (some .int), Cond.fieldLink RX10 277 "MoleMaps$Plan" "shafts" "I", Cond.fieldLink RX10 274 "MoleMaps$Moment" "gone" "I", Cond.fieldLink RX10 221 "MoleMaps" "doorsDone" "I", Cond.methodLink RX10 206 yJ6_bitCount_0f7a4, Cond.methodLink RL 84 yX10_as, Cond.instanceMethod yX10_as, Cond.selects RX10 yX10_as yX10_as, Cond.code yX10_as cX10_as 3 (some .int), Cond.methodLink RX10 196 yX1_isOf, Cond.instanceMethod yX1_isOf, Cond.selects RX1 yX1_isOf yX1_isOf, Cond.code yX1_isOf cX1_isOf 4 (some .boolean), Cond.methodLink RL 87 yX10_door]
def wsL_law_r18 : List Cond := [Cond.instanceMethod yX10_door, Cond.selects RX10 yX10_door yX10_door, Cond.code yX10_door cX10_door 4 (some .int), Cond.methodLink RL 91 yX10_turn, Cond.instanceMethod yX10_turn, Cond.selects RX10 yX10_turn yX10_turn, Cond.code yX10_turn cX10_turn 1 (some .int), Cond.methodLink RL 94 yL_smoke, Cond.static yL_smoke, Cond.code yL_smoke cL_smoke 10 (some .boolean), Cond.methodLink RL 97 yL_other, Cond.static yL_other, Cond.code yL_other cL_other 3 (some .int), Cond.methodLink RL 116 yX10_smelt, Cond.instanceMethod yX10_smelt, Cond.selects RX10 yX10_smelt yX10_smelt, Cond.code yX10_smelt cX10_smelt 3 (some .int), Cond.methodLink RX10 215 yX9_between, Cond.methodLink RL 119 yX10_wayOut, Cond.instanceMethod yX10_wayOut, Cond.selects RX10 yX10_wayOut yX10_wayOut, Cond.code yX10_wayOut cX10_wayOut 5 (some .int), Cond.methodLink RX10 227 yX5_isShaft, Cond.instanceMethod yX5_isShaft]
def wsL_law_r19 : List Cond := [Cond.selects RX5 yX5_isShaft yX5_isShaft, Cond.code yX5_isShaft cX5_isShaft 2 (some .boolean), Cond.methodLink RX10 230 yX0_firstInto, Cond.instanceMethod yX0_firstInto, Cond.selects RX0 yX0_firstInto yX0_firstInto, Cond.code yX0_firstInto cX0_firstInto 4 (some .int), Cond.methodLink RX10 203 yX5_otherEnd, Cond.methodLink RL 101 yX10_walk, Cond.instanceMethod yX10_walk, Cond.selects RX10 yX10_walk yX10_walk, Cond.code yX10_walk cX10_walk 6 (some .int), Cond.methodLink RX10 200 yX5_isAt, Cond.instanceMethod yX5_isAt, Cond.selects RX5 yX5_isAt yX5_isAt, Cond.code yX5_isAt cX5_isAt 3 (some .boolean), Cond.methodLink RL 104 yL_minute, Cond.static yL_minute, Cond.code yL_minute cL_minute 5 (some .int), Cond.methodLink RL 108 yX10_minutes, Cond.instanceMethod yX10_minutes, Cond.selects RX10 yX10_minutes yX10_minutes, Cond.code yX10_minutes cX10_minutes 4 (some .int), Cond.methodLink RX10 211 yX3_passMinute, Cond.instanceMethod yX3_passMinute]
def wsL_law_r20 : List Cond := [Cond.selects RX3 yX3_passMinute yX3_passMinute, Cond.code yX3_passMinute cX3_passMinute 5 none, Cond.methodLink RX3 52 Lib.Math.min.name, Cond.static Lib.Math.min.name, Cond.initialized "java/lang/Math", Cond.code Lib.Math.min.name Lib.Math.min.code 2 (some .int), Cond.fieldLink RX3 61 "MoleMaps$Crew" "size" "I", Cond.methodLink RX3 48 yX8_get, Cond.methodLink RX3 57 yX8_set, Cond.methodLink RX3 66 yX1_bears, Cond.methodLink RL 112 yL_walks, Cond.static yL_walks, Cond.code yL_walks cL_walks 15 (some .boolean), Cond.constantLong RL 125 (1103515245), Cond.constantLong RL 127 (12345), Cond.constantLong RL 129 (2147483648), Cond.constantLong RL 131 (65536), Cond.methodLink RL 122 yX10_walks, Cond.instanceMethod yX10_walks, Cond.selects RX10 yX10_walks yX10_walks, Cond.code yX10_walks cX10_walks 5 (some .int), Cond.fieldLink RX10 262 "MoleMaps$Draws" "seed" "I", Cond.methodLink RX10 258 yX3_copyFrom, Cond.instanceMethod yX3_copyFrom]
def wsL_law_r21 : List Cond := [Cond.selects RX3 yX3_copyFrom yX3_copyFrom, Cond.code yX3_copyFrom cX3_copyFrom 2 none, Cond.methodLink RX3 40 yX8_copyFrom, Cond.instanceMethod yX8_copyFrom, Cond.selects RX8 yX8_copyFrom yX8_copyFrom, Cond.code yX8_copyFrom cX8_copyFrom 3 none, Cond.methodLink RX8 13 yX8_get, Cond.methodLink RX10 265 yX10_dreamWalk, Cond.instanceMethod yX10_dreamWalk, Cond.selects RX10 yX10_dreamWalk yX10_dreamWalk, Cond.code yX10_dreamWalk cX10_dreamWalk 5 none, Cond.methodLink RX10 319 yX2_draw, Cond.instanceMethod yX2_draw, Cond.selects RX2 yX2_draw yX2_draw, Cond.code yX2_draw cX2_draw 2 (some .int), Cond.constantLong RX2 9 (1103515245), Cond.fieldLink RX2 11 "MoleMaps$Draws" "seed" "I", Cond.constantLong RX2 15 (12345), Cond.constantLong RX2 17 (2147483648), Cond.constant RX2 19 (65536), Cond.methodLink RX10 322 yX5_galleriesAt, Cond.instanceMethod yX5_galleriesAt, Cond.selects RX5 yX5_galleriesAt yX5_galleriesAt, Cond.code yX5_galleriesAt cX5_galleriesAt 5 (some .int)]
def wsL_law_r22 : List Cond := [Cond.methodLink RX5 68 yX5_isAt, Cond.methodLink RX10 325 yX10_placeOfBit, Cond.static yX10_placeOfBit, Cond.code yX10_placeOfBit cX10_placeOfBit 4 (some .int), Cond.methodLink RX10 328 yJ6_numberOfTrailingZeros_0f7a4, Cond.static yJ6_numberOfTrailingZeros_0f7a4, Cond.code yJ6_numberOfTrailingZeros_0f7a4 cJ6_numberOfTrailingZeros_0f7a4 2 (some .int), Cond.constant RJ6 264 (65536), Cond.methodLink RX10 268 yX8_sum, Cond.instanceMethod yX8_sum, Cond.selects RX8 yX8_sum yX8_sum, Cond.code yX8_sum cX8_sum 3 (some .int)]
def wsL_law : List Cond := (wsL_law_r1 ++ (wsL_law_r2 ++ (wsL_law_r3 ++ (wsL_law_r4 ++ (wsL_law_r5 ++ (wsL_law_r6 ++ (wsL_law_r7 ++ (wsL_law_r8 ++ (wsL_law_r9 ++ (wsL_law_r10 ++ (wsL_law_r11 ++ (wsL_law_r12 ++ (wsL_law_r13 ++ (wsL_law_r14 ++ (wsL_law_r15 ++ (wsL_law_r16 ++ (wsL_law_r17 ++ (wsL_law_r18 ++ (wsL_law_r19 ++ (wsL_law_r20 ++ (wsL_law_r21 ++ wsL_law_r22))))))))))))))))))))) ++ wsX100 ++ wsX40 ++ wsX50 ++ wsX00 ++ wsX90 ++ wsX10 ++ wsX30 ++ wsX20 ++ wsX70 ++ wsX80 ++ wsX60 ++ ([] : List Cond)
end
section
theorem wl_app {a b t : List Cond} (ha : ∀ w ∈ a, w ∈ t) (hb : ∀ w ∈ b, w ∈ t) : ∀ w ∈ a ++ b, w ∈ t := fun w h => (List.mem_append.mp h).elim (ha w) (hb w)
set_option maxRecDepth 20000 in
theorem wsL_law_r1_in : ∀ w ∈ wsL_law_r1, w ∈ lw_tbl := fun w h => (goodIn_p wsL_law_r1 [27, 30] (by decide +kernel) (by decide +kernel) w h).1
set_option maxRecDepth 20000 in
theorem wsL_law_r2_in : ∀ w ∈ wsL_law_r2, w ∈ lw_tbl := fun w h => (goodIn_p wsL_law_r2 [] (by decide +kernel) (by decide +kernel) w h).1
set_option maxRecDepth 20000 in
theorem wsL_law_r3_in : ∀ w ∈ wsL_law_r3, w ∈ lw_tbl := fun w h => (goodIn_p wsL_law_r3 [35, 41, 52, 84] (by decide +kernel) (by decide +kernel) w h).1
set_option maxRecDepth 20000 in
theorem wsL_law_r4_in : ∀ w ∈ wsL_law_r4, w ∈ lw_tbl := fun w h => (goodIn_p wsL_law_r4 [126, 150, 162] (by decide +kernel) (by decide +kernel) w h).1
set_option maxRecDepth 20000 in
theorem wsL_law_r5_in : ∀ w ∈ wsL_law_r5, w ∈ lw_tbl := fun w h => (goodIn_p wsL_law_r5 [180, 213, 224, 584] (by decide +kernel) (by decide +kernel) w h).1
set_option maxRecDepth 20000 in
theorem wsL_law_r6_in : ∀ w ∈ wsL_law_r6, w ∈ lw_tbl := fun w h => (goodIn_p wsL_law_r6 [577, 581, 587, 591, 594, 597, 602] (by decide +kernel) (by decide +kernel) w h).1
set_option maxRecDepth 20000 in
theorem wsL_law_r7_in : ∀ w ∈ wsL_law_r7, w ∈ lw_tbl := fun w h => (goodIn_p wsL_law_r7 [354, 292, 296, 300, 304] (by decide +kernel) (by decide +kernel) w h).1
set_option maxRecDepth 20000 in
theorem wsL_law_r8_in : ∀ w ∈ wsL_law_r8, w ∈ lw_tbl := fun w h => (goodIn_p wsL_law_r8 [308, 311, 315, 319, 322, 326] (by decide +kernel) (by decide +kernel) w h).1
set_option maxRecDepth 20000 in
theorem wsL_law_r9_in : ∀ w ∈ wsL_law_r9, w ∈ lw_tbl := fun w h => (goodIn_p wsL_law_r9 [330, 335, 338, 345] (by decide +kernel) (by decide +kernel) w h).1
set_option maxRecDepth 20000 in
theorem wsL_law_r10_in : ∀ w ∈ wsL_law_r10, w ∈ lw_tbl := fun w h => (goodIn_p wsL_law_r10 [350, 358, 362, 366, 370] (by decide +kernel) (by decide +kernel) w h).1
set_option maxRecDepth 20000 in
theorem wsL_law_r11_in : ∀ w ∈ wsL_law_r11, w ∈ lw_tbl := fun w h => (goodIn_p wsL_law_r11 [375, 379, 383] (by decide +kernel) (by decide +kernel) w h).1
set_option maxRecDepth 20000 in
theorem wsL_law_r12_in : ∀ w ∈ wsL_law_r12, w ∈ lw_tbl := fun w h => (goodIn_p wsL_law_r12 [390, 393, 398, 402, 406] (by decide +kernel) (by decide +kernel) w h).1
set_option maxRecDepth 20000 in
theorem wsL_law_r13_in : ∀ w ∈ wsL_law_r13, w ∈ lw_tbl := fun w h => (goodIn_p wsL_law_r13 [410, 414, 420, 424, 428] (by decide +kernel) (by decide +kernel) w h).1
set_option maxRecDepth 20000 in
theorem wsL_law_r14_in : ∀ w ∈ wsL_law_r14, w ∈ lw_tbl := fun w h => (goodIn_p wsL_law_r14 [433, 606, 465, 452, 468, 633] (by decide +kernel) (by decide +kernel) w h).1
set_option maxRecDepth 20000 in
theorem wsL_law_r15_in : ∀ w ∈ wsL_law_r15, w ∈ lw_tbl := fun w h => (goodIn_p wsL_law_r15 [612, 615, 618, 621, 438, 442] (by decide +kernel) (by decide +kernel) w h).1
set_option maxRecDepth 20000 in
theorem wsL_law_r16_in : ∀ w ∈ wsL_law_r16, w ∈ lw_tbl := fun w h => (goodIn_p wsL_law_r16 [448, 627, 473, 477] (by decide +kernel) (by decide +kernel) w h).1
set_option maxRecDepth 20000 in
theorem wsL_law_r17_in : ∀ w ∈ wsL_law_r17, w ∈ lw_tbl := fun w h => (goodIn_p wsL_law_r17 [481, 630, 637, 486, 490] (by decide +kernel) (by decide +kernel) w h).1
set_option maxRecDepth 20000 in
theorem wsL_law_r18_in : ∀ w ∈ wsL_law_r18, w ∈ lw_tbl := fun w h => (goodIn_p wsL_law_r18 [457, 461, 640, 609, 519, 524] (by decide +kernel) (by decide +kernel) w h).1
set_option maxRecDepth 20000 in
theorem wsL_law_r19_in : ∀ w ∈ wsL_law_r19, w ∈ lw_tbl := fun w h => (goodIn_p wsL_law_r19 [528, 533, 494, 498, 624, 503] (by decide +kernel) (by decide +kernel) w h).1
set_option maxRecDepth 20000 in
theorem wsL_law_r20_in : ∀ w ∈ wsL_law_r20, w ∈ lw_tbl := fun w h => (goodIn_p wsL_law_r20 [508, 513, 643, 537] (by decide +kernel) (by decide +kernel) w h).1
set_option maxRecDepth 20000 in
theorem wsL_law_r21_in : ∀ w ∈ wsL_law_r21, w ∈ lw_tbl := fun w h => (goodIn_p wsL_law_r21 [541, 545, 550, 554, 562] (by decide +kernel) (by decide +kernel) w h).1
set_option maxRecDepth 20000 in
theorem wsL_law_r22_in : ∀ w ∈ wsL_law_r22, w ∈ lw_tbl := fun w h => (goodIn_p wsL_law_r22 [566, 569, 574] (by decide +kernel) (by decide +kernel) w h).1
set_option maxRecDepth 20000 in
theorem wsX100_inw : ∀ w ∈ wsX100, w ∈ lw_tbl := by decide +kernel
set_option maxRecDepth 20000 in
theorem wsX40_inw : ∀ w ∈ wsX40, w ∈ lw_tbl := by decide +kernel
set_option maxRecDepth 20000 in
theorem wsX50_inw : ∀ w ∈ wsX50, w ∈ lw_tbl := by decide +kernel
set_option maxRecDepth 20000 in
theorem wsX00_inw : ∀ w ∈ wsX00, w ∈ lw_tbl := by decide +kernel
set_option maxRecDepth 20000 in
theorem wsX90_inw : ∀ w ∈ wsX90, w ∈ lw_tbl := by decide +kernel
set_option maxRecDepth 20000 in
theorem wsX10_inw : ∀ w ∈ wsX10, w ∈ lw_tbl := by decide +kernel
set_option maxRecDepth 20000 in
theorem wsX30_inw : ∀ w ∈ wsX30, w ∈ lw_tbl := by decide +kernel
set_option maxRecDepth 20000 in
theorem wsX20_inw : ∀ w ∈ wsX20, w ∈ lw_tbl := by decide +kernel
set_option maxRecDepth 20000 in
theorem wsX70_inw : ∀ w ∈ wsX70, w ∈ lw_tbl := by decide +kernel
set_option maxRecDepth 20000 in
theorem wsX80_inw : ∀ w ∈ wsX80, w ∈ lw_tbl := by decide +kernel
set_option maxRecDepth 20000 in
theorem wsX60_inw : ∀ w ∈ wsX60, w ∈ lw_tbl := by decide +kernel
theorem wsL_law_in : ∀ w ∈ wsL_law, w ∈ lw_tbl := wl_app (wl_app (wl_app (wl_app (wl_app (wl_app (wl_app (wl_app (wl_app (wl_app (wl_app (wl_app (wl_app wsL_law_r1_in (wl_app wsL_law_r2_in (wl_app wsL_law_r3_in (wl_app wsL_law_r4_in (wl_app wsL_law_r5_in (wl_app wsL_law_r6_in (wl_app wsL_law_r7_in (wl_app wsL_law_r8_in (wl_app wsL_law_r9_in (wl_app wsL_law_r10_in (wl_app wsL_law_r11_in (wl_app wsL_law_r12_in (wl_app wsL_law_r13_in (wl_app wsL_law_r14_in (wl_app wsL_law_r15_in (wl_app wsL_law_r16_in (wl_app wsL_law_r17_in (wl_app wsL_law_r18_in (wl_app wsL_law_r19_in (wl_app wsL_law_r20_in (wl_app wsL_law_r21_in (wsL_law_r22_in)))))))))))))))))))))) wsX100_inw) wsX40_inw) wsX50_inw) wsX00_inw) wsX90_inw) wsX10_inw) wsX30_inw) wsX20_inw) wsX70_inw) wsX80_inw) wsX60_inw) (fun _ h => absurd h List.not_mem_nil)
theorem inlX0 : ∀ w ∈ wsX00, w ∈ wsL_law := fun _ h => List.mem_append_left _ (List.mem_append_left _ (List.mem_append_left _ (List.mem_append_left _ (List.mem_append_left _ (List.mem_append_left _ (List.mem_append_left _ (List.mem_append_left _ (List.mem_append_right _ h))))))))
theorem inX0 : ∀ w ∈ wsX00, w ∈ lw_tbl := fun w h => wsL_law_in w (inlX0 w h)
theorem inlX1 : ∀ w ∈ wsX10, w ∈ wsL_law := fun _ h => List.mem_append_left _ (List.mem_append_left _ (List.mem_append_left _ (List.mem_append_left _ (List.mem_append_left _ (List.mem_append_left _ (List.mem_append_right _ h))))))
theorem inX1 : ∀ w ∈ wsX10, w ∈ lw_tbl := fun w h => wsL_law_in w (inlX1 w h)
theorem inlX2 : ∀ w ∈ wsX20, w ∈ wsL_law := fun _ h => List.mem_append_left _ (List.mem_append_left _ (List.mem_append_left _ (List.mem_append_left _ (List.mem_append_right _ h))))
theorem inX2 : ∀ w ∈ wsX20, w ∈ lw_tbl := fun w h => wsL_law_in w (inlX2 w h)
theorem inlX3 : ∀ w ∈ wsX30, w ∈ wsL_law := fun _ h => List.mem_append_left _ (List.mem_append_left _ (List.mem_append_left _ (List.mem_append_left _ (List.mem_append_left _ (List.mem_append_right _ h)))))
theorem inX3 : ∀ w ∈ wsX30, w ∈ lw_tbl := fun w h => wsL_law_in w (inlX3 w h)
theorem inlX4 : ∀ w ∈ wsX40, w ∈ wsL_law := fun _ h => List.mem_append_left _ (List.mem_append_left _ (List.mem_append_left _ (List.mem_append_left _ (List.mem_append_left _ (List.mem_append_left _ (List.mem_append_left _ (List.mem_append_left _ (List.mem_append_left _ (List.mem_append_left _ (List.mem_append_right _ h))))))))))
theorem inX4 : ∀ w ∈ wsX40, w ∈ lw_tbl := fun w h => wsL_law_in w (inlX4 w h)
theorem inlX5 : ∀ w ∈ wsX50, w ∈ wsL_law := fun _ h => List.mem_append_left _ (List.mem_append_left _ (List.mem_append_left _ (List.mem_append_left _ (List.mem_append_left _ (List.mem_append_left _ (List.mem_append_left _ (List.mem_append_left _ (List.mem_append_left _ (List.mem_append_right _ h)))))))))
theorem inX5 : ∀ w ∈ wsX50, w ∈ lw_tbl := fun w h => wsL_law_in w (inlX5 w h)
theorem inlX6 : ∀ w ∈ wsX60, w ∈ wsL_law := fun _ h => List.mem_append_left _ (List.mem_append_right _ h)
theorem inX6 : ∀ w ∈ wsX60, w ∈ lw_tbl := fun w h => wsL_law_in w (inlX6 w h)
theorem inlX7 : ∀ w ∈ wsX70, w ∈ wsL_law := fun _ h => List.mem_append_left _ (List.mem_append_left _ (List.mem_append_left _ (List.mem_append_right _ h)))
theorem inX7 : ∀ w ∈ wsX70, w ∈ lw_tbl := fun w h => wsL_law_in w (inlX7 w h)
theorem inlX8 : ∀ w ∈ wsX80, w ∈ wsL_law := fun _ h => List.mem_append_left _ (List.mem_append_left _ (List.mem_append_right _ h))
theorem inX8 : ∀ w ∈ wsX80, w ∈ lw_tbl := fun w h => wsL_law_in w (inlX8 w h)
theorem inlX9 : ∀ w ∈ wsX90, w ∈ wsL_law := fun _ h => List.mem_append_left _ (List.mem_append_left _ (List.mem_append_left _ (List.mem_append_left _ (List.mem_append_left _ (List.mem_append_left _ (List.mem_append_left _ (List.mem_append_right _ h)))))))
theorem inX9 : ∀ w ∈ wsX90, w ∈ lw_tbl := fun w h => wsL_law_in w (inlX9 w h)
theorem inlX10 : ∀ w ∈ wsX100, w ∈ wsL_law := fun _ h => List.mem_append_left _ (List.mem_append_left _ (List.mem_append_left _ (List.mem_append_left _ (List.mem_append_left _ (List.mem_append_left _ (List.mem_append_left _ (List.mem_append_left _ (List.mem_append_left _ (List.mem_append_left _ (List.mem_append_left _ (List.mem_append_right _ h)))))))))))
theorem inX10 : ∀ w ∈ wsX100, w ∈ lw_tbl := fun w h => wsL_law_in w (inlX10 w h)
theorem inX11 : ∀ w ∈ wsX110, w ∈ lw_tbl := by decide +kernel
theorem inJ6 : ∀ w ∈ wsJ60, w ∈ lw_tbl := by decide +kernel
theorem inJ9 : ∀ w ∈ wsJ90, w ∈ lw_tbl := by decide +kernel
end
section
/-! the words of the law, looked up in its lists -/
def lw_ch : List (List Cond) := [wsL_law_r1, wsL_law_r2, wsL_law_r3, wsL_law_r4, wsL_law_r5, wsL_law_r6, wsL_law_r7, wsL_law_r8, wsL_law_r9, wsL_law_r10, wsL_law_r11, wsL_law_r12, wsL_law_r13, wsL_law_r14, wsL_law_r15, wsL_law_r16, wsL_law_r17, wsL_law_r18, wsL_law_r19, wsL_law_r20, wsL_law_r21, wsL_law_r22, wsX100, wsX40, wsX50, wsX00, wsX90, wsX10, wsX30, wsX20, wsX70, wsX80, wsX60]
theorem lwc_0 : ∀ w ∈ wsL_law_r1, w ∈ wsL_law := fun _ h => List.mem_append_left _ (List.mem_append_left _ (List.mem_append_left _ (List.mem_append_left _ (List.mem_append_left _ (List.mem_append_left _ (List.mem_append_left _ (List.mem_append_left _ (List.mem_append_left _ (List.mem_append_left _ (List.mem_append_left _ (List.mem_append_left _ (List.mem_append_left _ h))))))))))))
theorem lwc_1 : ∀ w ∈ wsL_law_r2, w ∈ wsL_law := fun _ h => List.mem_append_left _ (List.mem_append_left _ (List.mem_append_left _ (List.mem_append_left _ (List.mem_append_left _ (List.mem_append_left _ (List.mem_append_left _ (List.mem_append_left _ (List.mem_append_left _ (List.mem_append_left _ (List.mem_append_left _ (List.mem_append_left _ (List.mem_append_right _ (List.mem_append_left _ h)))))))))))))
theorem lwc_2 : ∀ w ∈ wsL_law_r3, w ∈ wsL_law := fun _ h => List.mem_append_left _ (List.mem_append_left _ (List.mem_append_left _ (List.mem_append_left _ (List.mem_append_left _ (List.mem_append_left _ (List.mem_append_left _ (List.mem_append_left _ (List.mem_append_left _ (List.mem_append_left _ (List.mem_append_left _ (List.mem_append_left _ (List.mem_append_right _ (List.mem_append_right _ (List.mem_append_left _ h))))))))))))))
theorem lwc_3 : ∀ w ∈ wsL_law_r4, w ∈ wsL_law := fun _ h => List.mem_append_left _ (List.mem_append_left _ (List.mem_append_left _ (List.mem_append_left _ (List.mem_append_left _ (List.mem_append_left _ (List.mem_append_left _ (List.mem_append_left _ (List.mem_append_left _ (List.mem_append_left _ (List.mem_append_left _ (List.mem_append_left _ (List.mem_append_right _ (List.mem_append_right _ (List.mem_append_right _ (List.mem_append_left _ h)))))))))))))))
theorem lwc_4 : ∀ w ∈ wsL_law_r5, w ∈ wsL_law := fun _ h => List.mem_append_left _ (List.mem_append_left _ (List.mem_append_left _ (List.mem_append_left _ (List.mem_append_left _ (List.mem_append_left _ (List.mem_append_left _ (List.mem_append_left _ (List.mem_append_left _ (List.mem_append_left _ (List.mem_append_left _ (List.mem_append_left _ (List.mem_append_right _ (List.mem_append_right _ (List.mem_append_right _ (List.mem_append_right _ (List.mem_append_left _ h))))))))))))))))
theorem lwc_5 : ∀ w ∈ wsL_law_r6, w ∈ wsL_law := fun _ h => List.mem_append_left _ (List.mem_append_left _ (List.mem_append_left _ (List.mem_append_left _ (List.mem_append_left _ (List.mem_append_left _ (List.mem_append_left _ (List.mem_append_left _ (List.mem_append_left _ (List.mem_append_left _ (List.mem_append_left _ (List.mem_append_left _ (List.mem_append_right _ (List.mem_append_right _ (List.mem_append_right _ (List.mem_append_right _ (List.mem_append_right _ (List.mem_append_left _ h)))))))))))))))))
theorem lwc_6 : ∀ w ∈ wsL_law_r7, w ∈ wsL_law := fun _ h => List.mem_append_left _ (List.mem_append_left _ (List.mem_append_left _ (List.mem_append_left _ (List.mem_append_left _ (List.mem_append_left _ (List.mem_append_left _ (List.mem_append_left _ (List.mem_append_left _ (List.mem_append_left _ (List.mem_append_left _ (List.mem_append_left _ (List.mem_append_right _ (List.mem_append_right _ (List.mem_append_right _ (List.mem_append_right _ (List.mem_append_right _ (List.mem_append_right _ (List.mem_append_left _ h))))))))))))))))))
theorem lwc_7 : ∀ w ∈ wsL_law_r8, w ∈ wsL_law := fun _ h => List.mem_append_left _ (List.mem_append_left _ (List.mem_append_left _ (List.mem_append_left _ (List.mem_append_left _ (List.mem_append_left _ (List.mem_append_left _ (List.mem_append_left _ (List.mem_append_left _ (List.mem_append_left _ (List.mem_append_left _ (List.mem_append_left _ (List.mem_append_right _ (List.mem_append_right _ (List.mem_append_right _ (List.mem_append_right _ (List.mem_append_right _ (List.mem_append_right _ (List.mem_append_right _ (List.mem_append_left _ h)))))))))))))))))))
theorem lwc_8 : ∀ w ∈ wsL_law_r9, w ∈ wsL_law := fun _ h => List.mem_append_left _ (List.mem_append_left _ (List.mem_append_left _ (List.mem_append_left _ (List.mem_append_left _ (List.mem_append_left _ (List.mem_append_left _ (List.mem_append_left _ (List.mem_append_left _ (List.mem_append_left _ (List.mem_append_left _ (List.mem_append_left _ (List.mem_append_right _ (List.mem_append_right _ (List.mem_append_right _ (List.mem_append_right _ (List.mem_append_right _ (List.mem_append_right _ (List.mem_append_right _ (List.mem_append_right _ (List.mem_append_left _ h))))))))))))))))))))
theorem lwc_9 : ∀ w ∈ wsL_law_r10, w ∈ wsL_law := fun _ h => List.mem_append_left _ (List.mem_append_left _ (List.mem_append_left _ (List.mem_append_left _ (List.mem_append_left _ (List.mem_append_left _ (List.mem_append_left _ (List.mem_append_left _ (List.mem_append_left _ (List.mem_append_left _ (List.mem_append_left _ (List.mem_append_left _ (List.mem_append_right _ (List.mem_append_right _ (List.mem_append_right _ (List.mem_append_right _ (List.mem_append_right _ (List.mem_append_right _ (List.mem_append_right _ (List.mem_append_right _ (List.mem_append_right _ (List.mem_append_left _ h)))))))))))))))))))))
theorem lwc_10 : ∀ w ∈ wsL_law_r11, w ∈ wsL_law := fun _ h => List.mem_append_left _ (List.mem_append_left _ (List.mem_append_left _ (List.mem_append_left _ (List.mem_append_left _ (List.mem_append_left _ (List.mem_append_left _ (List.mem_append_left _ (List.mem_append_left _ (List.mem_append_left _ (List.mem_append_left _ (List.mem_append_left _ (List.mem_append_right _ (List.mem_append_right _ (List.mem_append_right _ (List.mem_append_right _ (List.mem_append_right _ (List.mem_append_right _ (List.mem_append_right _ (List.mem_append_right _ (List.mem_append_right _ (List.mem_append_right _ (List.mem_append_left _ h))))))))))))))))))))))
theorem lwc_11 : ∀ w ∈ wsL_law_r12, w ∈ wsL_law := fun _ h => List.mem_append_left _ (List.mem_append_left _ (List.mem_append_left _ (List.mem_append_left _ (List.mem_append_left _ (List.mem_append_left _ (List.mem_append_left _ (List.mem_append_left _ (List.mem_append_left _ (List.mem_append_left _ (List.mem_append_left _ (List.mem_append_left _ (List.mem_append_right _ (List.mem_append_right _ (List.mem_append_right _ (List.mem_append_right _ (List.mem_append_right _ (List.mem_append_right _ (List.mem_append_right _ (List.mem_append_right _ (List.mem_append_right _ (List.mem_append_right _ (List.mem_append_right _ (List.mem_append_left _ h)))))))))))))))))))))))
theorem lwc_12 : ∀ w ∈ wsL_law_r13, w ∈ wsL_law := fun _ h => List.mem_append_left _ (List.mem_append_left _ (List.mem_append_left _ (List.mem_append_left _ (List.mem_append_left _ (List.mem_append_left _ (List.mem_append_left _ (List.mem_append_left _ (List.mem_append_left _ (List.mem_append_left _ (List.mem_append_left _ (List.mem_append_left _ (List.mem_append_right _ (List.mem_append_right _ (List.mem_append_right _ (List.mem_append_right _ (List.mem_append_right _ (List.mem_append_right _ (List.mem_append_right _ (List.mem_append_right _ (List.mem_append_right _ (List.mem_append_right _ (List.mem_append_right _ (List.mem_append_right _ (List.mem_append_left _ h))))))))))))))))))))))))
theorem lwc_13 : ∀ w ∈ wsL_law_r14, w ∈ wsL_law := fun _ h => List.mem_append_left _ (List.mem_append_left _ (List.mem_append_left _ (List.mem_append_left _ (List.mem_append_left _ (List.mem_append_left _ (List.mem_append_left _ (List.mem_append_left _ (List.mem_append_left _ (List.mem_append_left _ (List.mem_append_left _ (List.mem_append_left _ (List.mem_append_right _ (List.mem_append_right _ (List.mem_append_right _ (List.mem_append_right _ (List.mem_append_right _ (List.mem_append_right _ (List.mem_append_right _ (List.mem_append_right _ (List.mem_append_right _ (List.mem_append_right _ (List.mem_append_right _ (List.mem_append_right _ (List.mem_append_right _ (List.mem_append_left _ h)))))))))))))))))))))))))
theorem lwc_14 : ∀ w ∈ wsL_law_r15, w ∈ wsL_law := fun _ h => List.mem_append_left _ (List.mem_append_left _ (List.mem_append_left _ (List.mem_append_left _ (List.mem_append_left _ (List.mem_append_left _ (List.mem_append_left _ (List.mem_append_left _ (List.mem_append_left _ (List.mem_append_left _ (List.mem_append_left _ (List.mem_append_left _ (List.mem_append_right _ (List.mem_append_right _ (List.mem_append_right _ (List.mem_append_right _ (List.mem_append_right _ (List.mem_append_right _ (List.mem_append_right _ (List.mem_append_right _ (List.mem_append_right _ (List.mem_append_right _ (List.mem_append_right _ (List.mem_append_right _ (List.mem_append_right _ (List.mem_append_right _ (List.mem_append_left _ h))))))))))))))))))))))))))
theorem lwc_15 : ∀ w ∈ wsL_law_r16, w ∈ wsL_law := fun _ h => List.mem_append_left _ (List.mem_append_left _ (List.mem_append_left _ (List.mem_append_left _ (List.mem_append_left _ (List.mem_append_left _ (List.mem_append_left _ (List.mem_append_left _ (List.mem_append_left _ (List.mem_append_left _ (List.mem_append_left _ (List.mem_append_left _ (List.mem_append_right _ (List.mem_append_right _ (List.mem_append_right _ (List.mem_append_right _ (List.mem_append_right _ (List.mem_append_right _ (List.mem_append_right _ (List.mem_append_right _ (List.mem_append_right _ (List.mem_append_right _ (List.mem_append_right _ (List.mem_append_right _ (List.mem_append_right _ (List.mem_append_right _ (List.mem_append_right _ (List.mem_append_left _ h)))))))))))))))))))))))))))
theorem lwc_16 : ∀ w ∈ wsL_law_r17, w ∈ wsL_law := fun _ h => List.mem_append_left _ (List.mem_append_left _ (List.mem_append_left _ (List.mem_append_left _ (List.mem_append_left _ (List.mem_append_left _ (List.mem_append_left _ (List.mem_append_left _ (List.mem_append_left _ (List.mem_append_left _ (List.mem_append_left _ (List.mem_append_left _ (List.mem_append_right _ (List.mem_append_right _ (List.mem_append_right _ (List.mem_append_right _ (List.mem_append_right _ (List.mem_append_right _ (List.mem_append_right _ (List.mem_append_right _ (List.mem_append_right _ (List.mem_append_right _ (List.mem_append_right _ (List.mem_append_right _ (List.mem_append_right _ (List.mem_append_right _ (List.mem_append_right _ (List.mem_append_right _ (List.mem_append_left _ h))))))))))))))))))))))))))))
theorem lwc_17 : ∀ w ∈ wsL_law_r18, w ∈ wsL_law := fun _ h => List.mem_append_left _ (List.mem_append_left _ (List.mem_append_left _ (List.mem_append_left _ (List.mem_append_left _ (List.mem_append_left _ (List.mem_append_left _ (List.mem_append_left _ (List.mem_append_left _ (List.mem_append_left _ (List.mem_append_left _ (List.mem_append_left _ (List.mem_append_right _ (List.mem_append_right _ (List.mem_append_right _ (List.mem_append_right _ (List.mem_append_right _ (List.mem_append_right _ (List.mem_append_right _ (List.mem_append_right _ (List.mem_append_right _ (List.mem_append_right _ (List.mem_append_right _ (List.mem_append_right _ (List.mem_append_right _ (List.mem_append_right _ (List.mem_append_right _ (List.mem_append_right _ (List.mem_append_right _ (List.mem_append_left _ h)))))))))))))))))))))))))))))
theorem lwc_18 : ∀ w ∈ wsL_law_r19, w ∈ wsL_law := fun _ h => List.mem_append_left _ (List.mem_append_left _ (List.mem_append_left _ (List.mem_append_left _ (List.mem_append_left _ (List.mem_append_left _ (List.mem_append_left _ (List.mem_append_left _ (List.mem_append_left _ (List.mem_append_left _ (List.mem_append_left _ (List.mem_append_left _ (List.mem_append_right _ (List.mem_append_right _ (List.mem_append_right _ (List.mem_append_right _ (List.mem_append_right _ (List.mem_append_right _ (List.mem_append_right _ (List.mem_append_right _ (List.mem_append_right _ (List.mem_append_right _ (List.mem_append_right _ (List.mem_append_right _ (List.mem_append_right _ (List.mem_append_right _ (List.mem_append_right _ (List.mem_append_right _ (List.mem_append_right _ (List.mem_append_right _ (List.mem_append_left _ h))))))))))))))))))))))))))))))
theorem lwc_19 : ∀ w ∈ wsL_law_r20, w ∈ wsL_law := fun _ h => List.mem_append_left _ (List.mem_append_left _ (List.mem_append_left _ (List.mem_append_left _ (List.mem_append_left _ (List.mem_append_left _ (List.mem_append_left _ (List.mem_append_left _ (List.mem_append_left _ (List.mem_append_left _ (List.mem_append_left _ (List.mem_append_left _ (List.mem_append_right _ (List.mem_append_right _ (List.mem_append_right _ (List.mem_append_right _ (List.mem_append_right _ (List.mem_append_right _ (List.mem_append_right _ (List.mem_append_right _ (List.mem_append_right _ (List.mem_append_right _ (List.mem_append_right _ (List.mem_append_right _ (List.mem_append_right _ (List.mem_append_right _ (List.mem_append_right _ (List.mem_append_right _ (List.mem_append_right _ (List.mem_append_right _ (List.mem_append_right _ (List.mem_append_left _ h)))))))))))))))))))))))))))))))
theorem lwc_20 : ∀ w ∈ wsL_law_r21, w ∈ wsL_law := fun _ h => List.mem_append_left _ (List.mem_append_left _ (List.mem_append_left _ (List.mem_append_left _ (List.mem_append_left _ (List.mem_append_left _ (List.mem_append_left _ (List.mem_append_left _ (List.mem_append_left _ (List.mem_append_left _ (List.mem_append_left _ (List.mem_append_left _ (List.mem_append_right _ (List.mem_append_right _ (List.mem_append_right _ (List.mem_append_right _ (List.mem_append_right _ (List.mem_append_right _ (List.mem_append_right _ (List.mem_append_right _ (List.mem_append_right _ (List.mem_append_right _ (List.mem_append_right _ (List.mem_append_right _ (List.mem_append_right _ (List.mem_append_right _ (List.mem_append_right _ (List.mem_append_right _ (List.mem_append_right _ (List.mem_append_right _ (List.mem_append_right _ (List.mem_append_right _ (List.mem_append_left _ h))))))))))))))))))))))))))))))))
theorem lwc_21 : ∀ w ∈ wsL_law_r22, w ∈ wsL_law := fun _ h => List.mem_append_left _ (List.mem_append_left _ (List.mem_append_left _ (List.mem_append_left _ (List.mem_append_left _ (List.mem_append_left _ (List.mem_append_left _ (List.mem_append_left _ (List.mem_append_left _ (List.mem_append_left _ (List.mem_append_left _ (List.mem_append_left _ (List.mem_append_right _ (List.mem_append_right _ (List.mem_append_right _ (List.mem_append_right _ (List.mem_append_right _ (List.mem_append_right _ (List.mem_append_right _ (List.mem_append_right _ (List.mem_append_right _ (List.mem_append_right _ (List.mem_append_right _ (List.mem_append_right _ (List.mem_append_right _ (List.mem_append_right _ (List.mem_append_right _ (List.mem_append_right _ (List.mem_append_right _ (List.mem_append_right _ (List.mem_append_right _ (List.mem_append_right _ (List.mem_append_right _ (h)))))))))))))))))))))))))))))))))
theorem lwc_22 : ∀ w ∈ wsX100, w ∈ wsL_law := fun _ h => List.mem_append_left _ (List.mem_append_left _ (List.mem_append_left _ (List.mem_append_left _ (List.mem_append_left _ (List.mem_append_left _ (List.mem_append_left _ (List.mem_append_left _ (List.mem_append_left _ (List.mem_append_left _ (List.mem_append_left _ (List.mem_append_right _ h)))))))))))
theorem lwc_23 : ∀ w ∈ wsX40, w ∈ wsL_law := fun _ h => List.mem_append_left _ (List.mem_append_left _ (List.mem_append_left _ (List.mem_append_left _ (List.mem_append_left _ (List.mem_append_left _ (List.mem_append_left _ (List.mem_append_left _ (List.mem_append_left _ (List.mem_append_left _ (List.mem_append_right _ h))))))))))
theorem lwc_24 : ∀ w ∈ wsX50, w ∈ wsL_law := fun _ h => List.mem_append_left _ (List.mem_append_left _ (List.mem_append_left _ (List.mem_append_left _ (List.mem_append_left _ (List.mem_append_left _ (List.mem_append_left _ (List.mem_append_left _ (List.mem_append_left _ (List.mem_append_right _ h)))))))))
theorem lwc_25 : ∀ w ∈ wsX00, w ∈ wsL_law := fun _ h => List.mem_append_left _ (List.mem_append_left _ (List.mem_append_left _ (List.mem_append_left _ (List.mem_append_left _ (List.mem_append_left _ (List.mem_append_left _ (List.mem_append_left _ (List.mem_append_right _ h))))))))
theorem lwc_26 : ∀ w ∈ wsX90, w ∈ wsL_law := fun _ h => List.mem_append_left _ (List.mem_append_left _ (List.mem_append_left _ (List.mem_append_left _ (List.mem_append_left _ (List.mem_append_left _ (List.mem_append_left _ (List.mem_append_right _ h)))))))
theorem lwc_27 : ∀ w ∈ wsX10, w ∈ wsL_law := fun _ h => List.mem_append_left _ (List.mem_append_left _ (List.mem_append_left _ (List.mem_append_left _ (List.mem_append_left _ (List.mem_append_left _ (List.mem_append_right _ h))))))
theorem lwc_28 : ∀ w ∈ wsX30, w ∈ wsL_law := fun _ h => List.mem_append_left _ (List.mem_append_left _ (List.mem_append_left _ (List.mem_append_left _ (List.mem_append_left _ (List.mem_append_right _ h)))))
theorem lwc_29 : ∀ w ∈ wsX20, w ∈ wsL_law := fun _ h => List.mem_append_left _ (List.mem_append_left _ (List.mem_append_left _ (List.mem_append_left _ (List.mem_append_right _ h))))
theorem lwc_30 : ∀ w ∈ wsX70, w ∈ wsL_law := fun _ h => List.mem_append_left _ (List.mem_append_left _ (List.mem_append_left _ (List.mem_append_right _ h)))
theorem lwc_31 : ∀ w ∈ wsX80, w ∈ wsL_law := fun _ h => List.mem_append_left _ (List.mem_append_left _ (List.mem_append_right _ h))
theorem lwc_32 : ∀ w ∈ wsX60, w ∈ wsL_law := fun _ h => List.mem_append_left _ (List.mem_append_right _ h)
theorem lw_cons {c : List Cond} {l : List (List Cond)} (h1 : ∀ w ∈ c, w ∈ wsL_law) (h2 : ∀ x ∈ l, ∀ w ∈ x, w ∈ wsL_law) : ∀ x ∈ c :: l, ∀ w ∈ x, w ∈ wsL_law := fun x hx w hw => (List.mem_cons.mp hx).elim (fun e => h1 w (e ▸ hw)) (fun h => h2 x h w hw)
theorem lw_ch_in : ∀ c ∈ lw_ch, ∀ w ∈ c, w ∈ wsL_law := (lw_cons lwc_0 (lw_cons lwc_1 (lw_cons lwc_2 (lw_cons lwc_3 (lw_cons lwc_4 (lw_cons lwc_5 (lw_cons lwc_6 (lw_cons lwc_7 (lw_cons lwc_8 (lw_cons lwc_9 (lw_cons lwc_10 (lw_cons lwc_11 (lw_cons lwc_12 (lw_cons lwc_13 (lw_cons lwc_14 (lw_cons lwc_15 (lw_cons lwc_16 (lw_cons lwc_17 (lw_cons lwc_18 (lw_cons lwc_19 (lw_cons lwc_20 (lw_cons lwc_21 (lw_cons lwc_22 (lw_cons lwc_23 (lw_cons lwc_24 (lw_cons lwc_25 (lw_cons lwc_26 (lw_cons lwc_27 (lw_cons lwc_28 (lw_cons lwc_29 (lw_cons lwc_30 (lw_cons lwc_31 (lw_cons lwc_32 (fun _ h => absurd h List.not_mem_nil))))))))))))))))))))))))))))))))))
def lw_lk (p : Nat × Nat) : Option Cond := match lw_ch[p.1]? with
  | some c => c[p.2]?
  | none => none
theorem goodIn_k (ws : List Cond) (ps : List (Nat × Nat)) (hp : ws = ps.filterMap lw_lk) (h : ws.all goodWord = true) : GoodIn wsL_law ws := by
  intro w hw
  have h1 := List.all_eq_true.mp h w hw
  rw [hp] at hw
  obtain ⟨p, -, hq⟩ := List.mem_filterMap.mp hw
  unfold lw_lk at hq
  split at hq
  · rename_i c hc
    exact ⟨lw_ch_in c (List.mem_of_getElem? hc) w (List.mem_of_getElem? hq), good_of_word h1⟩
  · cases hq
end
section
set_option maxRecDepth 20000 in
theorem ggX0_init_X8_init : GoodIn wsX0_init wsX8_init := goodIn_r _ [12, 13, 2, 3, 14, 15, 16] (by decide +kernel) (by decide +kernel)
set_option maxRecDepth 20000 in
theorem gX0_init_X8_init : GoodIn wsX0_init (wsX8_init) := ggX0_init_X8_init
theorem dX0_init_0 : decode cX0_init 0 = .ok (.aload_n 0, 1) := by decide +kernel
theorem dX0_init_1 : decode cX0_init 1 = .ok (.invokespecial 3, 3) := by decide +kernel
theorem dX0_init_4 : decode cX0_init 4 = .ok (.aload_n 0, 1) := by decide +kernel
theorem dX0_init_5 : decode cX0_init 5 = .ok (.new 9, 3) := by decide +kernel
theorem dX0_init_8 : decode cX0_init 8 = .ok (.dup, 1) := by decide +kernel
theorem dX0_init_9 : decode cX0_init 9 = .ok (.bipush 7, 2) := by decide +kernel
theorem dX0_init_11 : decode cX0_init 11 = .ok (.invokespecial 11, 3) := by decide +kernel
theorem dX0_init_14 : decode cX0_init 14 = .ok (.putfield 14, 3) := by decide +kernel
theorem dX0_init_17 : decode cX0_init 17 = .ok (.aload_n 0, 1) := by decide +kernel
theorem dX0_init_18 : decode cX0_init 18 = .ok (.new 9, 3) := by decide +kernel
theorem dX0_init_21 : decode cX0_init 21 = .ok (.dup, 1) := by decide +kernel
theorem dX0_init_22 : decode cX0_init 22 = .ok (.bipush 10, 2) := by decide +kernel
theorem dX0_init_24 : decode cX0_init 24 = .ok (.invokespecial 11, 3) := by decide +kernel
theorem dX0_init_27 : decode cX0_init 27 = .ok (.putfield 20, 3) := by decide +kernel
theorem dX0_init_30 : decode cX0_init 30 = .ok (.aload_n 0, 1) := by decide +kernel
theorem dX0_init_31 : decode cX0_init 31 = .ok (.new 9, 3) := by decide +kernel
theorem dX0_init_34 : decode cX0_init 34 = .ok (.dup, 1) := by decide +kernel
theorem dX0_init_35 : decode cX0_init 35 = .ok (.bipush 7, 2) := by decide +kernel
theorem dX0_init_37 : decode cX0_init 37 = .ok (.invokespecial 11, 3) := by decide +kernel
theorem dX0_init_40 : decode cX0_init 40 = .ok (.putfield 23, 3) := by decide +kernel
theorem dX0_init_43 : decode cX0_init 43 = .ok (.return_, 1) := by decide +kernel
set_option maxRecDepth 20000 in
theorem ggX0_blow_X0_findNearest : GoodIn wsX0_blow wsX0_findNearest := goodIn_r _ [7, 2, 8, 9, 10, 11, 12, 13, 14, 15, 16, 17, 18, 19, 20, 21, 22, 23, 24, 25, 26, 27, 6, 28, 56, 57, 58, 59, 60, 61, 62, 63, 64, 65, 66, 67] (by decide +kernel) (by decide +kernel)
set_option maxRecDepth 20000 in
theorem gX0_blow_X0_findNearest : GoodIn wsX0_blow (wsV RX0 26 RX0 yX0_findNearest wsX0_findNearest) := goodIn_app (goodIn_of _ (by decide +kernel)) ggX0_blow_X0_findNearest
set_option maxRecDepth 20000 in
theorem ggX0_blow_X8_get : GoodIn wsX0_blow wsX8_get := goodIn_r _ [24, 17, 67] (by decide +kernel) (by decide +kernel)
set_option maxRecDepth 20000 in
theorem gX0_blow_X8_get : GoodIn wsX0_blow (wsV RX0 30 RX8 yX8_get wsX8_get) := goodIn_app (goodIn_of _ (by decide +kernel)) ggX0_blow_X8_get
set_option maxRecDepth 20000 in
theorem ggX0_blow_X0_heightOf : GoodIn wsX0_blow wsX0_heightOf := goodIn_r _ [31, 32, 33, 34, 35, 36, 37, 38, 18, 19, 20, 39, 40, 41, 42, 43, 44, 45, 22, 23, 15, 24, 17, 60, 61, 62, 63, 64, 65, 66, 67] (by decide +kernel) (by decide +kernel)
set_option maxRecDepth 20000 in
theorem gX0_blow_X0_heightOf : GoodIn wsX0_blow (va_wsS RX0 34 yX0_heightOf wsX0_heightOf) := goodIn_app (goodIn_of _ (by decide +kernel)) ggX0_blow_X0_heightOf
set_option maxRecDepth 20000 in
theorem ggX0_blow_X8_set : GoodIn wsX0_blow wsX8_set := goodIn_r _ [16, 17, 67] (by decide +kernel) (by decide +kernel)
set_option maxRecDepth 20000 in
theorem gX0_blow_X8_set : GoodIn wsX0_blow (wsV RX0 38 RX8 yX8_set wsX8_set) := goodIn_app (goodIn_of _ (by decide +kernel)) ggX0_blow_X8_set
set_option maxRecDepth 20000 in
theorem ggX0_blow_X0_findFlows : GoodIn wsX0_blow wsX0_findFlows := goodIn_r _ [49, 50, 9, 10, 11, 51, 21, 22, 23, 15, 24, 17, 18, 19, 20, 52, 53, 54, 6, 55, 1, 12, 13, 14, 16, 56, 57, 58, 59, 60, 61, 62, 63, 64, 65, 66, 67] (by decide +kernel) (by decide +kernel)
set_option maxRecDepth 20000 in
theorem gX0_blow_X0_findFlows : GoodIn wsX0_blow (wsV RX0 42 RX0 yX0_findFlows wsX0_findFlows) := goodIn_app (goodIn_of _ (by decide +kernel)) ggX0_blow_X0_findFlows
theorem dX0_blow_0 : decode cX0_blow 0 = .ok (.aload_n 0, 1) := by decide +kernel
theorem dX0_blow_1 : decode cX0_blow 1 = .ok (.aload_n 1, 1) := by decide +kernel
theorem dX0_blow_2 : decode cX0_blow 2 = .ok (.iload_n 2, 1) := by decide +kernel
theorem dX0_blow_3 : decode cX0_blow 3 = .ok (.invokevirtual 26, 3) := by decide +kernel
theorem dX0_blow_6 : decode cX0_blow 6 = .ok (.iconst 0, 1) := by decide +kernel
theorem dX0_blow_7 : decode cX0_blow 7 = .ok (.istore 4, 2) := by decide +kernel
theorem dX0_blow_9 : decode cX0_blow 9 = .ok (.iload 4, 2) := by decide +kernel
theorem dX0_blow_11 : decode cX0_blow 11 = .ok (.bipush 7, 2) := by decide +kernel
theorem dX0_blow_13 : decode cX0_blow 13 = .ok (.if_icmp .ge 32, 3) := by decide +kernel
theorem dX0_blow_16 : decode cX0_blow 16 = .ok (.aload_n 0, 1) := by decide +kernel
theorem dX0_blow_17 : decode cX0_blow 17 = .ok (.getfield 14, 3) := by decide +kernel
theorem dX0_blow_20 : decode cX0_blow 20 = .ok (.iload 4, 2) := by decide +kernel
theorem dX0_blow_22 : decode cX0_blow 22 = .ok (.aload_n 0, 1) := by decide +kernel
theorem dX0_blow_23 : decode cX0_blow 23 = .ok (.getfield 23, 3) := by decide +kernel
theorem dX0_blow_26 : decode cX0_blow 26 = .ok (.iload 4, 2) := by decide +kernel
theorem dX0_blow_28 : decode cX0_blow 28 = .ok (.invokevirtual 30, 3) := by decide +kernel
theorem dX0_blow_31 : decode cX0_blow 31 = .ok (.aload_n 1, 1) := by decide +kernel
theorem dX0_blow_32 : decode cX0_blow 32 = .ok (.iload_n 3, 1) := by decide +kernel
theorem dX0_blow_33 : decode cX0_blow 33 = .ok (.invokestatic 34, 3) := by decide +kernel
theorem dX0_blow_36 : decode cX0_blow 36 = .ok (.invokevirtual 38, 3) := by decide +kernel
theorem dX0_blow_39 : decode cX0_blow 39 = .ok (.iinc 4 1, 3) := by decide +kernel
theorem dX0_blow_42 : decode cX0_blow 42 = .ok (.goto (-33), 3) := by decide +kernel
theorem dX0_blow_45 : decode cX0_blow 45 = .ok (.aload_n 0, 1) := by decide +kernel
theorem dX0_blow_46 : decode cX0_blow 46 = .ok (.aload_n 1, 1) := by decide +kernel
theorem dX0_blow_47 : decode cX0_blow 47 = .ok (.iload_n 2, 1) := by decide +kernel
theorem dX0_blow_48 : decode cX0_blow 48 = .ok (.invokevirtual 42, 3) := by decide +kernel
theorem dX0_blow_51 : decode cX0_blow 51 = .ok (.return_, 1) := by decide +kernel
set_option maxRecDepth 20000 in
theorem ggX0_findNearest_X8_set : GoodIn wsX0_findNearest wsX8_set := goodIn_r _ [10, 11, 35] (by decide +kernel) (by decide +kernel)
set_option maxRecDepth 20000 in
theorem gX0_findNearest_X8_set : GoodIn wsX0_findNearest (wsV RX0 38 RX8 yX8_set wsX8_set) := goodIn_app (goodIn_of _ (by decide +kernel)) ggX0_findNearest_X8_set
set_option maxRecDepth 20000 in
theorem ggX0_findNearest_X10_bit : GoodIn wsX0_findNearest wsX10_bit := goodIn_r _ [14] (by decide +kernel) (by decide +kernel)
set_option maxRecDepth 20000 in
theorem gX0_findNearest_X10_bit_n54 : GoodIn wsX0_findNearest (wsX10_bit) := ggX0_findNearest_X10_bit
set_option maxRecDepth 20000 in
theorem ggX0_findNearest_X8_get : GoodIn wsX0_findNearest wsX8_get := goodIn_r _ [18, 11, 35] (by decide +kernel) (by decide +kernel)
set_option maxRecDepth 20000 in
theorem gX0_findNearest_X8_get : GoodIn wsX0_findNearest (wsV RX0 30 RX8 yX8_get wsX8_get) := goodIn_app (goodIn_of _ (by decide +kernel)) ggX0_findNearest_X8_get
set_option maxRecDepth 20000 in
theorem ggX0_findNearest_X0_spread : GoodIn wsX0_findNearest wsX0_spread := goodIn_r _ [23, 1, 12, 13, 14, 15, 16, 17, 9, 18, 11, 6, 7, 8, 10, 24, 25, 26, 27, 35] (by decide +kernel) (by decide +kernel)
set_option maxRecDepth 20000 in
theorem gX0_findNearest_X0_spread : GoodIn wsX0_findNearest (wsV RX0 64 RX0 yX0_spread wsX0_spread) := goodIn_app (goodIn_of _ (by decide +kernel)) ggX0_findNearest_X0_spread
theorem dX0_findNearest_0 : decode cX0_findNearest 0 = .ok (.iconst 0, 1) := by decide +kernel
theorem dX0_findNearest_1 : decode cX0_findNearest 1 = .ok (.istore_n 3, 1) := by decide +kernel
theorem dX0_findNearest_2 : decode cX0_findNearest 2 = .ok (.iload_n 3, 1) := by decide +kernel
theorem dX0_findNearest_3 : decode cX0_findNearest 3 = .ok (.bipush 7, 2) := by decide +kernel
theorem dX0_findNearest_5 : decode cX0_findNearest 5 = .ok (.if_icmp .ge 25, 3) := by decide +kernel
theorem dX0_findNearest_8 : decode cX0_findNearest 8 = .ok (.aload_n 0, 1) := by decide +kernel
theorem dX0_findNearest_9 : decode cX0_findNearest 9 = .ok (.getfield 23, 3) := by decide +kernel
theorem dX0_findNearest_12 : decode cX0_findNearest 12 = .ok (.iload_n 3, 1) := by decide +kernel
theorem dX0_findNearest_13 : decode cX0_findNearest 13 = .ok (.aload_n 1, 1) := by decide +kernel
theorem dX0_findNearest_14 : decode cX0_findNearest 14 = .ok (.getfield 45, 3) := by decide +kernel
theorem dX0_findNearest_17 : decode cX0_findNearest 17 = .ok (.iconst 1, 1) := by decide +kernel
theorem dX0_findNearest_18 : decode cX0_findNearest 18 = .ok (.iload_n 3, 1) := by decide +kernel
theorem dX0_findNearest_19 : decode cX0_findNearest 19 = .ok (.ishl, 1) := by decide +kernel
theorem dX0_findNearest_20 : decode cX0_findNearest 20 = .ok (.iand, 1) := by decide +kernel
theorem dX0_findNearest_21 : decode cX0_findNearest 21 = .ok (.invokevirtual 38, 3) := by decide +kernel
theorem dX0_findNearest_24 : decode cX0_findNearest 24 = .ok (.iinc 3 1, 3) := by decide +kernel
theorem dX0_findNearest_27 : decode cX0_findNearest 27 = .ok (.goto (-25), 3) := by decide +kernel
theorem dX0_findNearest_30 : decode cX0_findNearest 30 = .ok (.aload_n 1, 1) := by decide +kernel
theorem dX0_findNearest_31 : decode cX0_findNearest 31 = .ok (.getfield 45, 3) := by decide +kernel
theorem dX0_findNearest_34 : decode cX0_findNearest 34 = .ok (.istore_n 3, 1) := by decide +kernel
theorem dX0_findNearest_35 : decode cX0_findNearest 35 = .ok (.iconst 1, 1) := by decide +kernel
theorem dX0_findNearest_36 : decode cX0_findNearest 36 = .ok (.istore 4, 2) := by decide +kernel
theorem dX0_findNearest_38 : decode cX0_findNearest 38 = .ok (.iload 4, 2) := by decide +kernel
theorem dX0_findNearest_40 : decode cX0_findNearest 40 = .ok (.bipush 7, 2) := by decide +kernel
theorem dX0_findNearest_42 : decode cX0_findNearest 42 = .ok (.if_icmp .ge 107, 3) := by decide +kernel
theorem dX0_findNearest_45 : decode cX0_findNearest 45 = .ok (.iconst 0, 1) := by decide +kernel
theorem dX0_findNearest_46 : decode cX0_findNearest 46 = .ok (.istore 5, 2) := by decide +kernel
theorem dX0_findNearest_48 : decode cX0_findNearest 48 = .ok (.iconst 0, 1) := by decide +kernel
theorem dX0_findNearest_49 : decode cX0_findNearest 49 = .ok (.istore 6, 2) := by decide +kernel
theorem dX0_findNearest_51 : decode cX0_findNearest 51 = .ok (.iload 6, 2) := by decide +kernel
theorem dX0_findNearest_53 : decode cX0_findNearest 53 = .ok (.aload_n 1, 1) := by decide +kernel
theorem dX0_findNearest_54 : decode cX0_findNearest 54 = .ok (.getfield 51, 3) := by decide +kernel
theorem dX0_findNearest_57 : decode cX0_findNearest 57 = .ok (.if_icmp .ge 75, 3) := by decide +kernel
theorem dX0_findNearest_60 : decode cX0_findNearest 60 = .ok (.iload_n 2, 1) := by decide +kernel
theorem dX0_findNearest_61 : decode cX0_findNearest 61 = .ok (.iload 6, 2) := by decide +kernel
theorem dX0_findNearest_63 : decode cX0_findNearest 63 = .ok (.invokestatic 54, 3) := by decide +kernel
theorem dX0_findNearest_66 : decode cX0_findNearest 66 = .ok (.iconst 1, 1) := by decide +kernel
theorem dX0_findNearest_67 : decode cX0_findNearest 67 = .ok (.if_icmp .ne 59, 3) := by decide +kernel
theorem dX0_findNearest_70 : decode cX0_findNearest 70 = .ok (.iload 5, 2) := by decide +kernel
theorem dX0_findNearest_72 : decode cX0_findNearest 72 = .ok (.aload_n 0, 1) := by decide +kernel
theorem dX0_findNearest_73 : decode cX0_findNearest 73 = .ok (.aload_n 1, 1) := by decide +kernel
theorem dX0_findNearest_74 : decode cX0_findNearest 74 = .ok (.getfield 58, 3) := by decide +kernel
theorem dX0_findNearest_77 : decode cX0_findNearest 77 = .ok (.iload 6, 2) := by decide +kernel
theorem dX0_findNearest_79 : decode cX0_findNearest 79 = .ok (.invokevirtual 30, 3) := by decide +kernel
theorem dX0_findNearest_82 : decode cX0_findNearest 82 = .ok (.aload_n 1, 1) := by decide +kernel
theorem dX0_findNearest_83 : decode cX0_findNearest 83 = .ok (.getfield 61, 3) := by decide +kernel
theorem dX0_findNearest_86 : decode cX0_findNearest 86 = .ok (.iload 6, 2) := by decide +kernel
theorem dX0_findNearest_88 : decode cX0_findNearest 88 = .ok (.invokevirtual 30, 3) := by decide +kernel
theorem dX0_findNearest_91 : decode cX0_findNearest 91 = .ok (.iload_n 3, 1) := by decide +kernel
theorem dX0_findNearest_92 : decode cX0_findNearest 92 = .ok (.invokevirtual 64, 3) := by decide +kernel
theorem dX0_findNearest_95 : decode cX0_findNearest 95 = .ok (.ior, 1) := by decide +kernel
theorem dX0_findNearest_96 : decode cX0_findNearest 96 = .ok (.istore 5, 2) := by decide +kernel
theorem dX0_findNearest_98 : decode cX0_findNearest 98 = .ok (.iload 5, 2) := by decide +kernel
theorem dX0_findNearest_100 : decode cX0_findNearest 100 = .ok (.aload_n 0, 1) := by decide +kernel
theorem dX0_findNearest_101 : decode cX0_findNearest 101 = .ok (.aload_n 1, 1) := by decide +kernel
theorem dX0_findNearest_102 : decode cX0_findNearest 102 = .ok (.getfield 61, 3) := by decide +kernel
theorem dX0_findNearest_105 : decode cX0_findNearest 105 = .ok (.iload 6, 2) := by decide +kernel
theorem dX0_findNearest_107 : decode cX0_findNearest 107 = .ok (.invokevirtual 30, 3) := by decide +kernel
theorem dX0_findNearest_110 : decode cX0_findNearest 110 = .ok (.aload_n 1, 1) := by decide +kernel
theorem dX0_findNearest_111 : decode cX0_findNearest 111 = .ok (.getfield 58, 3) := by decide +kernel
theorem dX0_findNearest_114 : decode cX0_findNearest 114 = .ok (.iload 6, 2) := by decide +kernel
theorem dX0_findNearest_116 : decode cX0_findNearest 116 = .ok (.invokevirtual 30, 3) := by decide +kernel
theorem dX0_findNearest_119 : decode cX0_findNearest 119 = .ok (.iload_n 3, 1) := by decide +kernel
theorem dX0_findNearest_120 : decode cX0_findNearest 120 = .ok (.invokevirtual 64, 3) := by decide +kernel
theorem dX0_findNearest_123 : decode cX0_findNearest 123 = .ok (.ior, 1) := by decide +kernel
theorem dX0_findNearest_124 : decode cX0_findNearest 124 = .ok (.istore 5, 2) := by decide +kernel
theorem dX0_findNearest_126 : decode cX0_findNearest 126 = .ok (.iinc 6 1, 3) := by decide +kernel
theorem dX0_findNearest_129 : decode cX0_findNearest 129 = .ok (.goto (-78), 3) := by decide +kernel
theorem dX0_findNearest_132 : decode cX0_findNearest 132 = .ok (.iload 5, 2) := by decide +kernel
theorem dX0_findNearest_134 : decode cX0_findNearest 134 = .ok (.ifCond .ne 4, 3) := by decide +kernel
theorem dX0_findNearest_137 : decode cX0_findNearest 137 = .ok (.return_, 1) := by decide +kernel
theorem dX0_findNearest_138 : decode cX0_findNearest 138 = .ok (.iload_n 3, 1) := by decide +kernel
theorem dX0_findNearest_139 : decode cX0_findNearest 139 = .ok (.iload 5, 2) := by decide +kernel
theorem dX0_findNearest_141 : decode cX0_findNearest 141 = .ok (.ior, 1) := by decide +kernel
theorem dX0_findNearest_142 : decode cX0_findNearest 142 = .ok (.istore_n 3, 1) := by decide +kernel
theorem dX0_findNearest_143 : decode cX0_findNearest 143 = .ok (.iinc 4 1, 3) := by decide +kernel
theorem dX0_findNearest_146 : decode cX0_findNearest 146 = .ok (.goto (-108), 3) := by decide +kernel
theorem dX0_findNearest_149 : decode cX0_findNearest 149 = .ok (.return_, 1) := by decide +kernel
set_option maxRecDepth 20000 in
theorem ggX0_spread_X10_bit : GoodIn wsX0_spread wsX10_bit := goodIn_r _ [4] (by decide +kernel) (by decide +kernel)
set_option maxRecDepth 20000 in
theorem gX0_spread_X10_bit_n54 : GoodIn wsX0_spread (wsX10_bit) := ggX0_spread_X10_bit
set_option maxRecDepth 20000 in
theorem ggX0_spread_X8_get : GoodIn wsX0_spread wsX8_get := goodIn_r _ [9, 10, 19] (by decide +kernel) (by decide +kernel)
set_option maxRecDepth 20000 in
theorem gX0_spread_X8_get : GoodIn wsX0_spread (wsV RX0 30 RX8 yX8_get wsX8_get) := goodIn_app (goodIn_of _ (by decide +kernel)) ggX0_spread_X8_get
set_option maxRecDepth 20000 in
theorem ggX0_spread_X8_set : GoodIn wsX0_spread wsX8_set := goodIn_r _ [14, 10, 19] (by decide +kernel) (by decide +kernel)
set_option maxRecDepth 20000 in
theorem gX0_spread_X8_set : GoodIn wsX0_spread (wsV RX0 38 RX8 yX8_set wsX8_set) := goodIn_app (goodIn_of _ (by decide +kernel)) ggX0_spread_X8_set
theorem dX0_spread_0 : decode cX0_spread 0 = .ok (.iload_n 3, 1) := by decide +kernel
theorem dX0_spread_1 : decode cX0_spread 1 = .ok (.iload_n 1, 1) := by decide +kernel
theorem dX0_spread_2 : decode cX0_spread 2 = .ok (.invokestatic 54, 3) := by decide +kernel
theorem dX0_spread_5 : decode cX0_spread 5 = .ok (.ifCond .eq 12, 3) := by decide +kernel
theorem dX0_spread_8 : decode cX0_spread 8 = .ok (.iload_n 3, 1) := by decide +kernel
theorem dX0_spread_9 : decode cX0_spread 9 = .ok (.iload_n 2, 1) := by decide +kernel
theorem dX0_spread_10 : decode cX0_spread 10 = .ok (.invokestatic 54, 3) := by decide +kernel
theorem dX0_spread_13 : decode cX0_spread 13 = .ok (.iconst 1, 1) := by decide +kernel
theorem dX0_spread_14 : decode cX0_spread 14 = .ok (.if_icmp .ne 5, 3) := by decide +kernel
theorem dX0_spread_17 : decode cX0_spread 17 = .ok (.iconst 0, 1) := by decide +kernel
theorem dX0_spread_18 : decode cX0_spread 18 = .ok (.ireturn, 1) := by decide +kernel
theorem dX0_spread_19 : decode cX0_spread 19 = .ok (.aload_n 0, 1) := by decide +kernel
theorem dX0_spread_20 : decode cX0_spread 20 = .ok (.getfield 23, 3) := by decide +kernel
theorem dX0_spread_23 : decode cX0_spread 23 = .ok (.iload_n 2, 1) := by decide +kernel
theorem dX0_spread_24 : decode cX0_spread 24 = .ok (.aload_n 0, 1) := by decide +kernel
theorem dX0_spread_25 : decode cX0_spread 25 = .ok (.getfield 23, 3) := by decide +kernel
theorem dX0_spread_28 : decode cX0_spread 28 = .ok (.iload_n 2, 1) := by decide +kernel
theorem dX0_spread_29 : decode cX0_spread 29 = .ok (.invokevirtual 30, 3) := by decide +kernel
theorem dX0_spread_32 : decode cX0_spread 32 = .ok (.aload_n 0, 1) := by decide +kernel
theorem dX0_spread_33 : decode cX0_spread 33 = .ok (.getfield 23, 3) := by decide +kernel
theorem dX0_spread_36 : decode cX0_spread 36 = .ok (.iload_n 1, 1) := by decide +kernel
theorem dX0_spread_37 : decode cX0_spread 37 = .ok (.invokevirtual 30, 3) := by decide +kernel
theorem dX0_spread_40 : decode cX0_spread 40 = .ok (.ior, 1) := by decide +kernel
theorem dX0_spread_41 : decode cX0_spread 41 = .ok (.invokevirtual 38, 3) := by decide +kernel
theorem dX0_spread_44 : decode cX0_spread 44 = .ok (.iconst 1, 1) := by decide +kernel
theorem dX0_spread_45 : decode cX0_spread 45 = .ok (.iload_n 2, 1) := by decide +kernel
theorem dX0_spread_46 : decode cX0_spread 46 = .ok (.ishl, 1) := by decide +kernel
theorem dX0_spread_47 : decode cX0_spread 47 = .ok (.ireturn, 1) := by decide +kernel
set_option maxRecDepth 20000 in
theorem ggX0_heightOf_J6_bitCount_0f7a4 : GoodIn wsX0_heightOf wsJ6_bitCount_0f7a4 := goodIn_r _ [4, 5, 6, 7] (by decide +kernel) (by decide +kernel)
set_option maxRecDepth 20000 in
theorem gX0_heightOf_J6_bitCount_0f7a4 : GoodIn wsX0_heightOf (va_wsS RX0 68 yJ6_bitCount_0f7a4 wsJ6_bitCount_0f7a4) := goodIn_app (goodIn_of _ (by decide +kernel)) ggX0_heightOf_J6_bitCount_0f7a4
set_option maxRecDepth 20000 in
theorem ggX0_heightOf_X10_bit : GoodIn wsX0_heightOf wsX10_bit := goodIn_r _ [10] (by decide +kernel) (by decide +kernel)
set_option maxRecDepth 20000 in
theorem gX0_heightOf_X10_bit_n54 : GoodIn wsX0_heightOf (wsX10_bit) := ggX0_heightOf_X10_bit
set_option maxRecDepth 20000 in
theorem ggX0_heightOf_X5_shaftHeight : GoodIn wsX0_heightOf wsX5_shaftHeight := goodIn_r _ [15, 16, 17, 18, 19, 20, 21, 22, 23, 24, 25, 26, 27, 28, 29, 30] (by decide +kernel) (by decide +kernel)
set_option maxRecDepth 20000 in
theorem gX0_heightOf_X5_shaftHeight : GoodIn wsX0_heightOf (wsV RX0 73 RX5 yX5_shaftHeight wsX5_shaftHeight) := goodIn_app (goodIn_of _ (by decide +kernel)) ggX0_heightOf_X5_shaftHeight
theorem dX0_heightOf_0 : decode cX0_heightOf 0 = .ok (.iload_n 0, 1) := by decide +kernel
theorem dX0_heightOf_1 : decode cX0_heightOf 1 = .ok (.invokestatic 68, 3) := by decide +kernel
theorem dX0_heightOf_4 : decode cX0_heightOf 4 = .ok (.istore_n 3, 1) := by decide +kernel
theorem dX0_heightOf_5 : decode cX0_heightOf 5 = .ok (.iload_n 3, 1) := by decide +kernel
theorem dX0_heightOf_6 : decode cX0_heightOf 6 = .ok (.ifCond .ne 5, 3) := by decide +kernel
theorem dX0_heightOf_9 : decode cX0_heightOf 9 = .ok (.iconst (-1), 1) := by decide +kernel
theorem dX0_heightOf_10 : decode cX0_heightOf 10 = .ok (.ireturn, 1) := by decide +kernel
theorem dX0_heightOf_11 : decode cX0_heightOf 11 = .ok (.iconst 0, 1) := by decide +kernel
theorem dX0_heightOf_12 : decode cX0_heightOf 12 = .ok (.istore 4, 2) := by decide +kernel
theorem dX0_heightOf_14 : decode cX0_heightOf 14 = .ok (.iconst 0, 1) := by decide +kernel
theorem dX0_heightOf_15 : decode cX0_heightOf 15 = .ok (.istore 5, 2) := by decide +kernel
theorem dX0_heightOf_17 : decode cX0_heightOf 17 = .ok (.iload 5, 2) := by decide +kernel
theorem dX0_heightOf_19 : decode cX0_heightOf 19 = .ok (.bipush 7, 2) := by decide +kernel
theorem dX0_heightOf_21 : decode cX0_heightOf 21 = .ok (.if_icmp .ge 31, 3) := by decide +kernel
theorem dX0_heightOf_24 : decode cX0_heightOf 24 = .ok (.iload_n 0, 1) := by decide +kernel
theorem dX0_heightOf_25 : decode cX0_heightOf 25 = .ok (.iload 5, 2) := by decide +kernel
theorem dX0_heightOf_27 : decode cX0_heightOf 27 = .ok (.invokestatic 54, 3) := by decide +kernel
theorem dX0_heightOf_30 : decode cX0_heightOf 30 = .ok (.iconst 1, 1) := by decide +kernel
theorem dX0_heightOf_31 : decode cX0_heightOf 31 = .ok (.if_icmp .ne 15, 3) := by decide +kernel
theorem dX0_heightOf_34 : decode cX0_heightOf 34 = .ok (.iload 4, 2) := by decide +kernel
theorem dX0_heightOf_36 : decode cX0_heightOf 36 = .ok (.aload_n 1, 1) := by decide +kernel
theorem dX0_heightOf_37 : decode cX0_heightOf 37 = .ok (.iload 5, 2) := by decide +kernel
theorem dX0_heightOf_39 : decode cX0_heightOf 39 = .ok (.iload_n 2, 1) := by decide +kernel
theorem dX0_heightOf_40 : decode cX0_heightOf 40 = .ok (.invokevirtual 73, 3) := by decide +kernel
theorem dX0_heightOf_43 : decode cX0_heightOf 43 = .ok (.iadd, 1) := by decide +kernel
theorem dX0_heightOf_44 : decode cX0_heightOf 44 = .ok (.istore 4, 2) := by decide +kernel
theorem dX0_heightOf_46 : decode cX0_heightOf 46 = .ok (.iinc 5 1, 3) := by decide +kernel
theorem dX0_heightOf_49 : decode cX0_heightOf 49 = .ok (.goto (-32), 3) := by decide +kernel
theorem dX0_heightOf_52 : decode cX0_heightOf 52 = .ok (.iload 4, 2) := by decide +kernel
theorem dX0_heightOf_54 : decode cX0_heightOf 54 = .ok (.iload_n 3, 1) := by decide +kernel
theorem dX0_heightOf_55 : decode cX0_heightOf 55 = .ok (.idiv, 1) := by decide +kernel
theorem dX0_heightOf_56 : decode cX0_heightOf 56 = .ok (.ireturn, 1) := by decide +kernel
set_option maxRecDepth 20000 in
theorem ggX0_findFlows_X8_get : GoodIn wsX0_findFlows wsX8_get := goodIn_r _ [10, 11, 36] (by decide +kernel) (by decide +kernel)
set_option maxRecDepth 20000 in
theorem gX0_findFlows_X8_get : GoodIn wsX0_findFlows (wsV RX0 30 RX8 yX8_get wsX8_get) := goodIn_app (goodIn_of _ (by decide +kernel)) ggX0_findFlows_X8_get
set_option maxRecDepth 20000 in
theorem ggX0_findFlows_X10_bit : GoodIn wsX0_findFlows wsX10_bit := goodIn_r _ [14] (by decide +kernel) (by decide +kernel)
set_option maxRecDepth 20000 in
theorem gX0_findFlows_X10_bit_n54 : GoodIn wsX0_findFlows (wsX10_bit) := ggX0_findFlows_X10_bit
set_option maxRecDepth 20000 in
theorem ggX0_findFlows_X0_lower : GoodIn wsX0_findFlows wsX0_lower := goodIn_r _ [19, 20, 6, 7, 8, 9, 10, 11, 25, 26, 27, 28, 36] (by decide +kernel) (by decide +kernel)
set_option maxRecDepth 20000 in
theorem gX0_findFlows_X0_lower : GoodIn wsX0_findFlows (wsV RX0 80 RX0 yX0_lower wsX0_lower) := goodIn_app (goodIn_of _ (by decide +kernel)) ggX0_findFlows_X0_lower
set_option maxRecDepth 20000 in
theorem ggX0_findFlows_X8_set : GoodIn wsX0_findFlows wsX8_set := goodIn_r _ [24, 11, 36] (by decide +kernel) (by decide +kernel)
set_option maxRecDepth 20000 in
theorem gX0_findFlows_X8_set : GoodIn wsX0_findFlows (wsV RX0 38 RX8 yX8_set wsX8_set) := goodIn_app (goodIn_of _ (by decide +kernel)) ggX0_findFlows_X8_set
theorem dX0_findFlows_0 : decode cX0_findFlows 0 = .ok (.aload_n 0, 1) := by decide +kernel
theorem dX0_findFlows_1 : decode cX0_findFlows 1 = .ok (.iconst 0, 1) := by decide +kernel
theorem dX0_findFlows_2 : decode cX0_findFlows 2 = .ok (.putfield 77, 3) := by decide +kernel
theorem dX0_findFlows_5 : decode cX0_findFlows 5 = .ok (.iconst 0, 1) := by decide +kernel
theorem dX0_findFlows_6 : decode cX0_findFlows 6 = .ok (.istore_n 3, 1) := by decide +kernel
theorem dX0_findFlows_7 : decode cX0_findFlows 7 = .ok (.iload_n 3, 1) := by decide +kernel
theorem dX0_findFlows_8 : decode cX0_findFlows 8 = .ok (.aload_n 1, 1) := by decide +kernel
theorem dX0_findFlows_9 : decode cX0_findFlows 9 = .ok (.getfield 51, 3) := by decide +kernel
theorem dX0_findFlows_12 : decode cX0_findFlows 12 = .ok (.if_icmp .ge 86, 3) := by decide +kernel
theorem dX0_findFlows_15 : decode cX0_findFlows 15 = .ok (.aload_n 1, 1) := by decide +kernel
theorem dX0_findFlows_16 : decode cX0_findFlows 16 = .ok (.getfield 58, 3) := by decide +kernel
theorem dX0_findFlows_19 : decode cX0_findFlows 19 = .ok (.iload_n 3, 1) := by decide +kernel
theorem dX0_findFlows_20 : decode cX0_findFlows 20 = .ok (.invokevirtual 30, 3) := by decide +kernel
theorem dX0_findFlows_23 : decode cX0_findFlows 23 = .ok (.istore 4, 2) := by decide +kernel
theorem dX0_findFlows_25 : decode cX0_findFlows 25 = .ok (.aload_n 1, 1) := by decide +kernel
theorem dX0_findFlows_26 : decode cX0_findFlows 26 = .ok (.getfield 61, 3) := by decide +kernel
theorem dX0_findFlows_29 : decode cX0_findFlows 29 = .ok (.iload_n 3, 1) := by decide +kernel
theorem dX0_findFlows_30 : decode cX0_findFlows 30 = .ok (.invokevirtual 30, 3) := by decide +kernel
theorem dX0_findFlows_33 : decode cX0_findFlows 33 = .ok (.istore 5, 2) := by decide +kernel
theorem dX0_findFlows_35 : decode cX0_findFlows 35 = .ok (.iload_n 2, 1) := by decide +kernel
theorem dX0_findFlows_36 : decode cX0_findFlows 36 = .ok (.iload_n 3, 1) := by decide +kernel
theorem dX0_findFlows_37 : decode cX0_findFlows 37 = .ok (.invokestatic 54, 3) := by decide +kernel
theorem dX0_findFlows_40 : decode cX0_findFlows 40 = .ok (.iconst 1, 1) := by decide +kernel
theorem dX0_findFlows_41 : decode cX0_findFlows 41 = .ok (.if_icmp .ne 14, 3) := by decide +kernel
theorem dX0_findFlows_44 : decode cX0_findFlows 44 = .ok (.aload_n 0, 1) := by decide +kernel
theorem dX0_findFlows_45 : decode cX0_findFlows 45 = .ok (.iload 4, 2) := by decide +kernel
theorem dX0_findFlows_47 : decode cX0_findFlows 47 = .ok (.iload 5, 2) := by decide +kernel
theorem dX0_findFlows_49 : decode cX0_findFlows 49 = .ok (.invokevirtual 80, 3) := by decide +kernel
theorem dX0_findFlows_52 : decode cX0_findFlows 52 = .ok (.goto 4, 3) := by decide +kernel
theorem dX0_findFlows_55 : decode cX0_findFlows 55 = .ok (.iconst (-1), 1) := by decide +kernel
theorem dX0_findFlows_56 : decode cX0_findFlows 56 = .ok (.istore 6, 2) := by decide +kernel
theorem dX0_findFlows_58 : decode cX0_findFlows 58 = .ok (.aload_n 0, 1) := by decide +kernel
theorem dX0_findFlows_59 : decode cX0_findFlows 59 = .ok (.getfield 20, 3) := by decide +kernel
theorem dX0_findFlows_62 : decode cX0_findFlows 62 = .ok (.iload_n 3, 1) := by decide +kernel
theorem dX0_findFlows_63 : decode cX0_findFlows 63 = .ok (.iload 6, 2) := by decide +kernel
theorem dX0_findFlows_65 : decode cX0_findFlows 65 = .ok (.invokevirtual 38, 3) := by decide +kernel
theorem dX0_findFlows_68 : decode cX0_findFlows 68 = .ok (.iload 6, 2) := by decide +kernel
theorem dX0_findFlows_70 : decode cX0_findFlows 70 = .ok (.iconst (-1), 1) := by decide +kernel
theorem dX0_findFlows_71 : decode cX0_findFlows 71 = .ok (.if_icmp .eq 21, 3) := by decide +kernel
theorem dX0_findFlows_74 : decode cX0_findFlows 74 = .ok (.aload_n 0, 1) := by decide +kernel
theorem dX0_findFlows_75 : decode cX0_findFlows 75 = .ok (.dup, 1) := by decide +kernel
theorem dX0_findFlows_76 : decode cX0_findFlows 76 = .ok (.getfield 77, 3) := by decide +kernel
theorem dX0_findFlows_79 : decode cX0_findFlows 79 = .ok (.iconst 1, 1) := by decide +kernel
theorem dX0_findFlows_80 : decode cX0_findFlows 80 = .ok (.iload 4, 2) := by decide +kernel
theorem dX0_findFlows_82 : decode cX0_findFlows 82 = .ok (.ishl, 1) := by decide +kernel
theorem dX0_findFlows_83 : decode cX0_findFlows 83 = .ok (.iconst 1, 1) := by decide +kernel
theorem dX0_findFlows_84 : decode cX0_findFlows 84 = .ok (.iload 5, 2) := by decide +kernel
theorem dX0_findFlows_86 : decode cX0_findFlows 86 = .ok (.ishl, 1) := by decide +kernel
theorem dX0_findFlows_87 : decode cX0_findFlows 87 = .ok (.ior, 1) := by decide +kernel
theorem dX0_findFlows_88 : decode cX0_findFlows 88 = .ok (.ior, 1) := by decide +kernel
theorem dX0_findFlows_89 : decode cX0_findFlows 89 = .ok (.putfield 77, 3) := by decide +kernel
theorem dX0_findFlows_92 : decode cX0_findFlows 92 = .ok (.iinc 3 1, 3) := by decide +kernel
theorem dX0_findFlows_95 : decode cX0_findFlows 95 = .ok (.goto (-88), 3) := by decide +kernel
theorem dX0_findFlows_98 : decode cX0_findFlows 98 = .ok (.return_, 1) := by decide +kernel
set_option maxRecDepth 20000 in
theorem ggX0_lower_X8_get : GoodIn wsX0_lower wsX8_get := goodIn_r _ [6, 7, 12] (by decide +kernel) (by decide +kernel)
set_option maxRecDepth 20000 in
theorem gX0_lower_X8_get : GoodIn wsX0_lower (wsV RX0 30 RX8 yX8_get wsX8_get) := goodIn_app (goodIn_of _ (by decide +kernel)) ggX0_lower_X8_get
theorem dX0_lower_0 : decode cX0_lower 0 = .ok (.aload_n 0, 1) := by decide +kernel
theorem dX0_lower_1 : decode cX0_lower 1 = .ok (.getfield 14, 3) := by decide +kernel
theorem dX0_lower_4 : decode cX0_lower 4 = .ok (.iload_n 1, 1) := by decide +kernel
theorem dX0_lower_5 : decode cX0_lower 5 = .ok (.invokevirtual 30, 3) := by decide +kernel
theorem dX0_lower_8 : decode cX0_lower 8 = .ok (.istore_n 3, 1) := by decide +kernel
theorem dX0_lower_9 : decode cX0_lower 9 = .ok (.aload_n 0, 1) := by decide +kernel
theorem dX0_lower_10 : decode cX0_lower 10 = .ok (.getfield 14, 3) := by decide +kernel
theorem dX0_lower_13 : decode cX0_lower 13 = .ok (.iload_n 2, 1) := by decide +kernel
theorem dX0_lower_14 : decode cX0_lower 14 = .ok (.invokevirtual 30, 3) := by decide +kernel
theorem dX0_lower_17 : decode cX0_lower 17 = .ok (.istore 4, 2) := by decide +kernel
theorem dX0_lower_19 : decode cX0_lower 19 = .ok (.iload_n 3, 1) := by decide +kernel
theorem dX0_lower_20 : decode cX0_lower 20 = .ok (.iload 4, 2) := by decide +kernel
theorem dX0_lower_22 : decode cX0_lower 22 = .ok (.if_icmp .eq 14, 3) := by decide +kernel
theorem dX0_lower_25 : decode cX0_lower 25 = .ok (.iload_n 3, 1) := by decide +kernel
theorem dX0_lower_26 : decode cX0_lower 26 = .ok (.iconst (-1), 1) := by decide +kernel
theorem dX0_lower_27 : decode cX0_lower 27 = .ok (.if_icmp .eq 9, 3) := by decide +kernel
theorem dX0_lower_30 : decode cX0_lower 30 = .ok (.iload 4, 2) := by decide +kernel
theorem dX0_lower_32 : decode cX0_lower 32 = .ok (.iconst (-1), 1) := by decide +kernel
theorem dX0_lower_33 : decode cX0_lower 33 = .ok (.if_icmp .ne 5, 3) := by decide +kernel
theorem dX0_lower_36 : decode cX0_lower 36 = .ok (.iconst (-1), 1) := by decide +kernel
theorem dX0_lower_37 : decode cX0_lower 37 = .ok (.ireturn, 1) := by decide +kernel
theorem dX0_lower_38 : decode cX0_lower 38 = .ok (.iload_n 3, 1) := by decide +kernel
theorem dX0_lower_39 : decode cX0_lower 39 = .ok (.iload 4, 2) := by decide +kernel
theorem dX0_lower_41 : decode cX0_lower 41 = .ok (.if_icmp .ge 7, 3) := by decide +kernel
theorem dX0_lower_44 : decode cX0_lower 44 = .ok (.iload_n 1, 1) := by decide +kernel
theorem dX0_lower_45 : decode cX0_lower 45 = .ok (.goto 4, 3) := by decide +kernel
theorem dX0_lower_48 : decode cX0_lower 48 = .ok (.iload_n 2, 1) := by decide +kernel
theorem dX0_lower_49 : decode cX0_lower 49 = .ok (.ireturn, 1) := by decide +kernel
set_option maxRecDepth 20000 in
theorem ggX0_firstInto_X8_get : GoodIn wsX0_firstInto wsX8_get := goodIn_r _ [7, 8, 20] (by decide +kernel) (by decide +kernel)
set_option maxRecDepth 20000 in
theorem gX0_firstInto_X8_get : GoodIn wsX0_firstInto (wsV RX0 30 RX8 yX8_get wsX8_get) := goodIn_app (goodIn_of _ (by decide +kernel)) ggX0_firstInto_X8_get
theorem dX0_firstInto_0 : decode cX0_firstInto 0 = .ok (.iconst 0, 1) := by decide +kernel
theorem dX0_firstInto_1 : decode cX0_firstInto 1 = .ok (.istore_n 3, 1) := by decide +kernel
theorem dX0_firstInto_2 : decode cX0_firstInto 2 = .ok (.iload_n 3, 1) := by decide +kernel
theorem dX0_firstInto_3 : decode cX0_firstInto 3 = .ok (.aload_n 1, 1) := by decide +kernel
theorem dX0_firstInto_4 : decode cX0_firstInto 4 = .ok (.getfield 51, 3) := by decide +kernel
theorem dX0_firstInto_7 : decode cX0_firstInto 7 = .ok (.if_icmp .ge 23, 3) := by decide +kernel
theorem dX0_firstInto_10 : decode cX0_firstInto 10 = .ok (.aload_n 0, 1) := by decide +kernel
theorem dX0_firstInto_11 : decode cX0_firstInto 11 = .ok (.getfield 20, 3) := by decide +kernel
theorem dX0_firstInto_14 : decode cX0_firstInto 14 = .ok (.iload_n 3, 1) := by decide +kernel
theorem dX0_firstInto_15 : decode cX0_firstInto 15 = .ok (.invokevirtual 30, 3) := by decide +kernel
theorem dX0_firstInto_18 : decode cX0_firstInto 18 = .ok (.iload_n 2, 1) := by decide +kernel
theorem dX0_firstInto_19 : decode cX0_firstInto 19 = .ok (.if_icmp .ne 5, 3) := by decide +kernel
theorem dX0_firstInto_22 : decode cX0_firstInto 22 = .ok (.iload_n 3, 1) := by decide +kernel
theorem dX0_firstInto_23 : decode cX0_firstInto 23 = .ok (.ireturn, 1) := by decide +kernel
theorem dX0_firstInto_24 : decode cX0_firstInto 24 = .ok (.iinc 3 1, 3) := by decide +kernel
theorem dX0_firstInto_27 : decode cX0_firstInto 27 = .ok (.goto (-25), 3) := by decide +kernel
theorem dX0_firstInto_30 : decode cX0_firstInto 30 = .ok (.iconst (-1), 1) := by decide +kernel
theorem dX0_firstInto_31 : decode cX0_firstInto 31 = .ok (.ireturn, 1) := by decide +kernel
set_option maxRecDepth 20000 in
theorem ggX0_carrySmoke_X9_clear : GoodIn wsX0_carrySmoke wsX9_clear := goodIn_r _ [8, 9, 10, 11, 12, 13, 14, 15, 16, 17, 18, 19, 57, 58] (by decide +kernel) (by decide +kernel)
set_option maxRecDepth 20000 in
theorem gX0_carrySmoke_X9_clear : GoodIn wsX0_carrySmoke (wsV RX0 83 RX9 yX9_clear wsX9_clear) := goodIn_app (goodIn_of _ (by decide +kernel)) ggX0_carrySmoke_X9_clear
set_option maxRecDepth 20000 in
theorem ggX0_carrySmoke_X8_get : GoodIn wsX0_carrySmoke wsX8_get := goodIn_r _ [23, 15, 58] (by decide +kernel) (by decide +kernel)
set_option maxRecDepth 20000 in
theorem gX0_carrySmoke_X8_get : GoodIn wsX0_carrySmoke (wsV RX0 30 RX8 yX8_get wsX8_get) := goodIn_app (goodIn_of _ (by decide +kernel)) ggX0_carrySmoke_X8_get
set_option maxRecDepth 20000 in
theorem ggX0_carrySmoke_X5_otherEnd : GoodIn wsX0_carrySmoke wsX5_otherEnd := goodIn_r _ [28, 29, 30, 31, 21, 22, 13, 23, 15, 46, 47, 48, 49, 50, 51, 52, 58] (by decide +kernel) (by decide +kernel)
set_option maxRecDepth 20000 in
theorem gX0_carrySmoke_X5_otherEnd : GoodIn wsX0_carrySmoke (wsV RX0 88 RX5 yX5_otherEnd wsX5_otherEnd) := goodIn_app (goodIn_of _ (by decide +kernel)) ggX0_carrySmoke_X5_otherEnd
set_option maxRecDepth 20000 in
theorem ggX0_carrySmoke_X9_link : GoodIn wsX0_carrySmoke wsX9_link := goodIn_r _ [35, 9, 36, 37, 38, 7, 39, 40, 21, 22, 13, 23, 15, 16, 17, 18, 19, 57, 58] (by decide +kernel) (by decide +kernel)
set_option maxRecDepth 20000 in
theorem gX0_carrySmoke_X9_link : GoodIn wsX0_carrySmoke (wsV RX0 94 RX9 yX9_link wsX9_link) := goodIn_app (goodIn_of _ (by decide +kernel)) ggX0_carrySmoke_X9_link
set_option maxRecDepth 20000 in
theorem ggX0_carrySmoke_X9_joinWays : GoodIn wsX0_carrySmoke wsX9_joinWays := goodIn_r _ [44, 36, 37, 38, 7, 39, 9, 40, 21, 22, 13, 23, 15, 45, 33, 34, 35, 16, 17, 18, 19, 57, 58] (by decide +kernel) (by decide +kernel)
set_option maxRecDepth 20000 in
theorem gX0_carrySmoke_X9_joinWays : GoodIn wsX0_carrySmoke (wsV RX0 98 RX9 yX9_joinWays wsX9_joinWays) := goodIn_app (goodIn_of _ (by decide +kernel)) ggX0_carrySmoke_X9_joinWays
theorem dX0_carrySmoke_0 : decode cX0_carrySmoke 0 = .ok (.aload_n 2, 1) := by decide +kernel
theorem dX0_carrySmoke_1 : decode cX0_carrySmoke 1 = .ok (.invokevirtual 83, 3) := by decide +kernel
theorem dX0_carrySmoke_4 : decode cX0_carrySmoke 4 = .ok (.iconst 0, 1) := by decide +kernel
theorem dX0_carrySmoke_5 : decode cX0_carrySmoke 5 = .ok (.istore_n 3, 1) := by decide +kernel
theorem dX0_carrySmoke_6 : decode cX0_carrySmoke 6 = .ok (.iload_n 3, 1) := by decide +kernel
theorem dX0_carrySmoke_7 : decode cX0_carrySmoke 7 = .ok (.aload_n 1, 1) := by decide +kernel
theorem dX0_carrySmoke_8 : decode cX0_carrySmoke 8 = .ok (.getfield 51, 3) := by decide +kernel
theorem dX0_carrySmoke_11 : decode cX0_carrySmoke 11 = .ok (.if_icmp .ge 46, 3) := by decide +kernel
theorem dX0_carrySmoke_14 : decode cX0_carrySmoke 14 = .ok (.aload_n 0, 1) := by decide +kernel
theorem dX0_carrySmoke_15 : decode cX0_carrySmoke 15 = .ok (.getfield 20, 3) := by decide +kernel
theorem dX0_carrySmoke_18 : decode cX0_carrySmoke 18 = .ok (.iload_n 3, 1) := by decide +kernel
theorem dX0_carrySmoke_19 : decode cX0_carrySmoke 19 = .ok (.invokevirtual 30, 3) := by decide +kernel
theorem dX0_carrySmoke_22 : decode cX0_carrySmoke 22 = .ok (.istore 4, 2) := by decide +kernel
theorem dX0_carrySmoke_24 : decode cX0_carrySmoke 24 = .ok (.iload 4, 2) := by decide +kernel
theorem dX0_carrySmoke_26 : decode cX0_carrySmoke 26 = .ok (.iconst (-1), 1) := by decide +kernel
theorem dX0_carrySmoke_27 : decode cX0_carrySmoke 27 = .ok (.if_icmp .eq 24, 3) := by decide +kernel
theorem dX0_carrySmoke_30 : decode cX0_carrySmoke 30 = .ok (.aload_n 2, 1) := by decide +kernel
theorem dX0_carrySmoke_31 : decode cX0_carrySmoke 31 = .ok (.aload_n 1, 1) := by decide +kernel
theorem dX0_carrySmoke_32 : decode cX0_carrySmoke 32 = .ok (.iload_n 3, 1) := by decide +kernel
theorem dX0_carrySmoke_33 : decode cX0_carrySmoke 33 = .ok (.iload 4, 2) := by decide +kernel
theorem dX0_carrySmoke_35 : decode cX0_carrySmoke 35 = .ok (.invokevirtual 88, 3) := by decide +kernel
theorem dX0_carrySmoke_38 : decode cX0_carrySmoke 38 = .ok (.iload 4, 2) := by decide +kernel
theorem dX0_carrySmoke_40 : decode cX0_carrySmoke 40 = .ok (.aload_n 1, 1) := by decide +kernel
theorem dX0_carrySmoke_41 : decode cX0_carrySmoke 41 = .ok (.getfield 91, 3) := by decide +kernel
theorem dX0_carrySmoke_44 : decode cX0_carrySmoke 44 = .ok (.iload_n 3, 1) := by decide +kernel
theorem dX0_carrySmoke_45 : decode cX0_carrySmoke 45 = .ok (.invokevirtual 30, 3) := by decide +kernel
theorem dX0_carrySmoke_48 : decode cX0_carrySmoke 48 = .ok (.invokevirtual 94, 3) := by decide +kernel
theorem dX0_carrySmoke_51 : decode cX0_carrySmoke 51 = .ok (.iinc 3 1, 3) := by decide +kernel
theorem dX0_carrySmoke_54 : decode cX0_carrySmoke 54 = .ok (.goto (-48), 3) := by decide +kernel
theorem dX0_carrySmoke_57 : decode cX0_carrySmoke 57 = .ok (.aload_n 2, 1) := by decide +kernel
theorem dX0_carrySmoke_58 : decode cX0_carrySmoke 58 = .ok (.invokevirtual 98, 3) := by decide +kernel
theorem dX0_carrySmoke_61 : decode cX0_carrySmoke 61 = .ok (.return_, 1) := by decide +kernel
set_option maxRecDepth 20000 in
theorem ggX1_init_X8_init : GoodIn wsX1_init wsX8_init := goodIn_r _ [10, 11, 2, 3, 12, 13, 14] (by decide +kernel) (by decide +kernel)
set_option maxRecDepth 20000 in
theorem gX1_init_X8_init : GoodIn wsX1_init (wsX8_init) := ggX1_init_X8_init
theorem dX1_init_0 : decode cX1_init 0 = .ok (.aload_n 0, 1) := by decide +kernel
theorem dX1_init_1 : decode cX1_init 1 = .ok (.invokespecial 3, 3) := by decide +kernel
theorem dX1_init_4 : decode cX1_init 4 = .ok (.aload_n 0, 1) := by decide +kernel
theorem dX1_init_5 : decode cX1_init 5 = .ok (.new 9, 3) := by decide +kernel
theorem dX1_init_8 : decode cX1_init 8 = .ok (.dup, 1) := by decide +kernel
theorem dX1_init_9 : decode cX1_init 9 = .ok (.bipush 6, 2) := by decide +kernel
theorem dX1_init_11 : decode cX1_init 11 = .ok (.invokespecial 11, 3) := by decide +kernel
theorem dX1_init_14 : decode cX1_init 14 = .ok (.putfield 14, 3) := by decide +kernel
theorem dX1_init_17 : decode cX1_init 17 = .ok (.return_, 1) := by decide +kernel
theorem dX1_isKind_0 : decode cX1_isKind 0 = .ok (.iload_n 0, 1) := by decide +kernel
theorem dX1_isKind_1 : decode cX1_isKind 1 = .ok (.ifCond .lt 12, 3) := by decide +kernel
theorem dX1_isKind_4 : decode cX1_isKind 4 = .ok (.iload_n 0, 1) := by decide +kernel
theorem dX1_isKind_5 : decode cX1_isKind 5 = .ok (.iconst 4, 1) := by decide +kernel
theorem dX1_isKind_6 : decode cX1_isKind 6 = .ok (.if_icmp .gt 7, 3) := by decide +kernel
theorem dX1_isKind_9 : decode cX1_isKind 9 = .ok (.iconst 1, 1) := by decide +kernel
theorem dX1_isKind_10 : decode cX1_isKind 10 = .ok (.goto 4, 3) := by decide +kernel
theorem dX1_isKind_13 : decode cX1_isKind 13 = .ok (.iconst 0, 1) := by decide +kernel
theorem dX1_isKind_14 : decode cX1_isKind 14 = .ok (.ireturn, 1) := by decide +kernel
theorem dX1_has_0 : decode cX1_has 0 = .ok (.iload_n 1, 1) := by decide +kernel
theorem dX1_has_1 : decode cX1_has 1 = .ok (.ifCond .lt 15, 3) := by decide +kernel
theorem dX1_has_4 : decode cX1_has 4 = .ok (.iload_n 1, 1) := by decide +kernel
theorem dX1_has_5 : decode cX1_has 5 = .ok (.aload_n 0, 1) := by decide +kernel
theorem dX1_has_6 : decode cX1_has 6 = .ok (.getfield 20, 3) := by decide +kernel
theorem dX1_has_9 : decode cX1_has 9 = .ok (.if_icmp .ge 7, 3) := by decide +kernel
theorem dX1_has_12 : decode cX1_has 12 = .ok (.iconst 1, 1) := by decide +kernel
theorem dX1_has_13 : decode cX1_has 13 = .ok (.goto 4, 3) := by decide +kernel
theorem dX1_has_16 : decode cX1_has 16 = .ok (.iconst 0, 1) := by decide +kernel
theorem dX1_has_17 : decode cX1_has 17 = .ok (.ireturn, 1) := by decide +kernel
set_option maxRecDepth 20000 in
theorem ggX1_isOf_X8_get : GoodIn wsX1_isOf wsX8_get := goodIn_r _ [6, 7, 10] (by decide +kernel) (by decide +kernel)
set_option maxRecDepth 20000 in
theorem gX1_isOf_X8_get : GoodIn wsX1_isOf (wsV RX1 24 RX8 yX8_get wsX8_get) := goodIn_app (goodIn_of _ (by decide +kernel)) ggX1_isOf_X8_get
theorem dX1_isOf_0 : decode cX1_isOf 0 = .ok (.aload_n 0, 1) := by decide +kernel
theorem dX1_isOf_1 : decode cX1_isOf 1 = .ok (.getfield 14, 3) := by decide +kernel
theorem dX1_isOf_4 : decode cX1_isOf 4 = .ok (.iload_n 1, 1) := by decide +kernel
theorem dX1_isOf_5 : decode cX1_isOf 5 = .ok (.invokevirtual 24, 3) := by decide +kernel
theorem dX1_isOf_8 : decode cX1_isOf 8 = .ok (.istore_n 3, 1) := by decide +kernel
theorem dX1_isOf_9 : decode cX1_isOf 9 = .ok (.iload_n 2, 1) := by decide +kernel
theorem dX1_isOf_10 : decode cX1_isOf 10 = .ok (.ifCond .eq 18, 3) := by decide +kernel
theorem dX1_isOf_13 : decode cX1_isOf 13 = .ok (.iload_n 2, 1) := by decide +kernel
theorem dX1_isOf_14 : decode cX1_isOf 14 = .ok (.iload_n 3, 1) := by decide +kernel
theorem dX1_isOf_15 : decode cX1_isOf 15 = .ok (.if_icmp .eq 13, 3) := by decide +kernel
theorem dX1_isOf_18 : decode cX1_isOf 18 = .ok (.iload_n 2, 1) := by decide +kernel
theorem dX1_isOf_19 : decode cX1_isOf 19 = .ok (.iconst 1, 1) := by decide +kernel
theorem dX1_isOf_20 : decode cX1_isOf 20 = .ok (.if_icmp .ne 12, 3) := by decide +kernel
theorem dX1_isOf_23 : decode cX1_isOf 23 = .ok (.iload_n 3, 1) := by decide +kernel
theorem dX1_isOf_24 : decode cX1_isOf 24 = .ok (.iconst 4, 1) := by decide +kernel
theorem dX1_isOf_25 : decode cX1_isOf 25 = .ok (.if_icmp .ne 7, 3) := by decide +kernel
theorem dX1_isOf_28 : decode cX1_isOf 28 = .ok (.iconst 1, 1) := by decide +kernel
theorem dX1_isOf_29 : decode cX1_isOf 29 = .ok (.goto 4, 3) := by decide +kernel
theorem dX1_isOf_32 : decode cX1_isOf 32 = .ok (.iconst 0, 1) := by decide +kernel
theorem dX1_isOf_33 : decode cX1_isOf 33 = .ok (.ireturn, 1) := by decide +kernel
set_option maxRecDepth 20000 in
theorem ggX1_bears_X8_get : GoodIn wsX1_bears wsX8_get := goodIn_r _ [6, 7, 10] (by decide +kernel) (by decide +kernel)
set_option maxRecDepth 20000 in
theorem gX1_bears_X8_get : GoodIn wsX1_bears (wsV RX1 24 RX8 yX8_get wsX8_get) := goodIn_app (goodIn_of _ (by decide +kernel)) ggX1_bears_X8_get
theorem dX1_bears_0 : decode cX1_bears 0 = .ok (.aload_n 0, 1) := by decide +kernel
theorem dX1_bears_1 : decode cX1_bears 1 = .ok (.getfield 14, 3) := by decide +kernel
theorem dX1_bears_4 : decode cX1_bears 4 = .ok (.iload_n 1, 1) := by decide +kernel
theorem dX1_bears_5 : decode cX1_bears 5 = .ok (.invokevirtual 24, 3) := by decide +kernel
theorem dX1_bears_8 : decode cX1_bears 8 = .ok (.tableswitch 35 2 4 #[28, 30, 32], 28) := by decide +kernel
theorem dX1_bears_36 : decode cX1_bears 36 = .ok (.iconst 1, 1) := by decide +kernel
theorem dX1_bears_37 : decode cX1_bears 37 = .ok (.ireturn, 1) := by decide +kernel
theorem dX1_bears_38 : decode cX1_bears 38 = .ok (.iconst 2, 1) := by decide +kernel
theorem dX1_bears_39 : decode cX1_bears 39 = .ok (.ireturn, 1) := by decide +kernel
theorem dX1_bears_40 : decode cX1_bears 40 = .ok (.bipush 6, 2) := by decide +kernel
theorem dX1_bears_42 : decode cX1_bears 42 = .ok (.ireturn, 1) := by decide +kernel
theorem dX1_bears_43 : decode cX1_bears 43 = .ok (.iconst 4, 1) := by decide +kernel
theorem dX1_bears_44 : decode cX1_bears 44 = .ok (.ireturn, 1) := by decide +kernel
theorem dX2_init_0 : decode cX2_init 0 = .ok (.aload_n 0, 1) := by decide +kernel
theorem dX2_init_1 : decode cX2_init 1 = .ok (.invokespecial 1, 3) := by decide +kernel
theorem dX2_init_4 : decode cX2_init 4 = .ok (.return_, 1) := by decide +kernel
theorem dX2_draw_0 : decode cX2_draw 0 = .ok (.aload_n 0, 1) := by decide +kernel
theorem dX2_draw_1 : decode cX2_draw 1 = .ok (.ldc2_w 9, 3) := by decide +kernel
theorem dX2_draw_4 : decode cX2_draw 4 = .ok (.aload_n 0, 1) := by decide +kernel
theorem dX2_draw_5 : decode cX2_draw 5 = .ok (.getfield 11, 3) := by decide +kernel
theorem dX2_draw_8 : decode cX2_draw 8 = .ok (.i2l, 1) := by decide +kernel
theorem dX2_draw_9 : decode cX2_draw 9 = .ok (.lmul, 1) := by decide +kernel
theorem dX2_draw_10 : decode cX2_draw 10 = .ok (.ldc2_w 15, 3) := by decide +kernel
theorem dX2_draw_13 : decode cX2_draw 13 = .ok (.ladd, 1) := by decide +kernel
theorem dX2_draw_14 : decode cX2_draw 14 = .ok (.ldc2_w 17, 3) := by decide +kernel
theorem dX2_draw_17 : decode cX2_draw 17 = .ok (.lrem, 1) := by decide +kernel
theorem dX2_draw_18 : decode cX2_draw 18 = .ok (.l2i, 1) := by decide +kernel
theorem dX2_draw_19 : decode cX2_draw 19 = .ok (.putfield 11, 3) := by decide +kernel
theorem dX2_draw_22 : decode cX2_draw 22 = .ok (.iload_n 1, 1) := by decide +kernel
theorem dX2_draw_23 : decode cX2_draw 23 = .ok (.ifCond .le 15, 3) := by decide +kernel
theorem dX2_draw_26 : decode cX2_draw 26 = .ok (.aload_n 0, 1) := by decide +kernel
theorem dX2_draw_27 : decode cX2_draw 27 = .ok (.getfield 11, 3) := by decide +kernel
theorem dX2_draw_30 : decode cX2_draw 30 = .ok (.ldc 19, 2) := by decide +kernel
theorem dX2_draw_32 : decode cX2_draw 32 = .ok (.idiv, 1) := by decide +kernel
theorem dX2_draw_33 : decode cX2_draw 33 = .ok (.iload_n 1, 1) := by decide +kernel
theorem dX2_draw_34 : decode cX2_draw 34 = .ok (.irem, 1) := by decide +kernel
theorem dX2_draw_35 : decode cX2_draw 35 = .ok (.goto 4, 3) := by decide +kernel
theorem dX2_draw_38 : decode cX2_draw 38 = .ok (.iconst 0, 1) := by decide +kernel
theorem dX2_draw_39 : decode cX2_draw 39 = .ok (.ireturn, 1) := by decide +kernel
set_option maxRecDepth 20000 in
theorem ggX3_init_X8_init : GoodIn wsX3_init wsX8_init := goodIn_r _ [11, 12, 2, 3, 13, 14, 15] (by decide +kernel) (by decide +kernel)
set_option maxRecDepth 20000 in
theorem gX3_init_X8_init : GoodIn wsX3_init (wsX8_init) := ggX3_init_X8_init
theorem dX3_init_0 : decode cX3_init 0 = .ok (.aload_n 0, 1) := by decide +kernel
theorem dX3_init_1 : decode cX3_init 1 = .ok (.invokespecial 3, 3) := by decide +kernel
theorem dX3_init_4 : decode cX3_init 4 = .ok (.aload_n 0, 1) := by decide +kernel
theorem dX3_init_5 : decode cX3_init 5 = .ok (.new 9, 3) := by decide +kernel
theorem dX3_init_8 : decode cX3_init 8 = .ok (.dup, 1) := by decide +kernel
theorem dX3_init_9 : decode cX3_init 9 = .ok (.bipush 7, 2) := by decide +kernel
theorem dX3_init_11 : decode cX3_init 11 = .ok (.invokespecial 11, 3) := by decide +kernel
theorem dX3_init_14 : decode cX3_init 14 = .ok (.putfield 14, 3) := by decide +kernel
theorem dX3_init_17 : decode cX3_init 17 = .ok (.aload_n 0, 1) := by decide +kernel
theorem dX3_init_18 : decode cX3_init 18 = .ok (.new 9, 3) := by decide +kernel
theorem dX3_init_21 : decode cX3_init 21 = .ok (.dup, 1) := by decide +kernel
theorem dX3_init_22 : decode cX3_init 22 = .ok (.bipush 6, 2) := by decide +kernel
theorem dX3_init_24 : decode cX3_init 24 = .ok (.invokespecial 11, 3) := by decide +kernel
theorem dX3_init_27 : decode cX3_init 27 = .ok (.putfield 20, 3) := by decide +kernel
theorem dX3_init_30 : decode cX3_init 30 = .ok (.return_, 1) := by decide +kernel
set_option maxRecDepth 20000 in
theorem ggX3_begin_X8_fill : GoodIn wsX3_begin wsX8_fill := goodIn_r _ [10, 11, 18] (by decide +kernel) (by decide +kernel)
set_option maxRecDepth 20000 in
theorem gX3_begin_X8_fill : GoodIn wsX3_begin (wsV RX3 31 RX8 yX8_fill wsX8_fill) := goodIn_app (goodIn_of _ (by decide +kernel)) ggX3_begin_X8_fill
theorem dX3_begin_0 : decode cX3_begin 0 = .ok (.aload_n 0, 1) := by decide +kernel
theorem dX3_begin_1 : decode cX3_begin 1 = .ok (.iload_n 1, 1) := by decide +kernel
theorem dX3_begin_2 : decode cX3_begin 2 = .ok (.putfield 23, 3) := by decide +kernel
theorem dX3_begin_5 : decode cX3_begin 5 = .ok (.aload_n 0, 1) := by decide +kernel
theorem dX3_begin_6 : decode cX3_begin 6 = .ok (.iconst 0, 1) := by decide +kernel
theorem dX3_begin_7 : decode cX3_begin 7 = .ok (.putfield 27, 3) := by decide +kernel
theorem dX3_begin_10 : decode cX3_begin 10 = .ok (.aload_n 0, 1) := by decide +kernel
theorem dX3_begin_11 : decode cX3_begin 11 = .ok (.getfield 14, 3) := by decide +kernel
theorem dX3_begin_14 : decode cX3_begin 14 = .ok (.iconst 0, 1) := by decide +kernel
theorem dX3_begin_15 : decode cX3_begin 15 = .ok (.invokevirtual 31, 3) := by decide +kernel
theorem dX3_begin_18 : decode cX3_begin 18 = .ok (.aload_n 0, 1) := by decide +kernel
theorem dX3_begin_19 : decode cX3_begin 19 = .ok (.iconst 0, 1) := by decide +kernel
theorem dX3_begin_20 : decode cX3_begin 20 = .ok (.putfield 34, 3) := by decide +kernel
theorem dX3_begin_23 : decode cX3_begin 23 = .ok (.aload_n 0, 1) := by decide +kernel
theorem dX3_begin_24 : decode cX3_begin 24 = .ok (.iconst 0, 1) := by decide +kernel
theorem dX3_begin_25 : decode cX3_begin 25 = .ok (.putfield 37, 3) := by decide +kernel
theorem dX3_begin_28 : decode cX3_begin 28 = .ok (.return_, 1) := by decide +kernel
set_option maxRecDepth 20000 in
theorem ggX3_copyFrom_X8_copyFrom : GoodIn wsX3_copyFrom wsX8_copyFrom := goodIn_r _ [11, 12, 13, 14, 15, 10, 16, 23] (by decide +kernel) (by decide +kernel)
set_option maxRecDepth 20000 in
theorem gX3_copyFrom_X8_copyFrom : GoodIn wsX3_copyFrom (wsV RX3 40 RX8 yX8_copyFrom wsX8_copyFrom) := goodIn_app (goodIn_of _ (by decide +kernel)) ggX3_copyFrom_X8_copyFrom
theorem dX3_copyFrom_0 : decode cX3_copyFrom 0 = .ok (.aload_n 0, 1) := by decide +kernel
theorem dX3_copyFrom_1 : decode cX3_copyFrom 1 = .ok (.aload_n 1, 1) := by decide +kernel
theorem dX3_copyFrom_2 : decode cX3_copyFrom 2 = .ok (.getfield 23, 3) := by decide +kernel
theorem dX3_copyFrom_5 : decode cX3_copyFrom 5 = .ok (.putfield 23, 3) := by decide +kernel
theorem dX3_copyFrom_8 : decode cX3_copyFrom 8 = .ok (.aload_n 0, 1) := by decide +kernel
theorem dX3_copyFrom_9 : decode cX3_copyFrom 9 = .ok (.aload_n 1, 1) := by decide +kernel
theorem dX3_copyFrom_10 : decode cX3_copyFrom 10 = .ok (.getfield 27, 3) := by decide +kernel
theorem dX3_copyFrom_13 : decode cX3_copyFrom 13 = .ok (.putfield 27, 3) := by decide +kernel
theorem dX3_copyFrom_16 : decode cX3_copyFrom 16 = .ok (.aload_n 0, 1) := by decide +kernel
theorem dX3_copyFrom_17 : decode cX3_copyFrom 17 = .ok (.getfield 14, 3) := by decide +kernel
theorem dX3_copyFrom_20 : decode cX3_copyFrom 20 = .ok (.aload_n 1, 1) := by decide +kernel
theorem dX3_copyFrom_21 : decode cX3_copyFrom 21 = .ok (.getfield 14, 3) := by decide +kernel
theorem dX3_copyFrom_24 : decode cX3_copyFrom 24 = .ok (.invokevirtual 40, 3) := by decide +kernel
theorem dX3_copyFrom_27 : decode cX3_copyFrom 27 = .ok (.aload_n 0, 1) := by decide +kernel
theorem dX3_copyFrom_28 : decode cX3_copyFrom 28 = .ok (.getfield 20, 3) := by decide +kernel
theorem dX3_copyFrom_31 : decode cX3_copyFrom 31 = .ok (.aload_n 1, 1) := by decide +kernel
theorem dX3_copyFrom_32 : decode cX3_copyFrom 32 = .ok (.getfield 20, 3) := by decide +kernel
theorem dX3_copyFrom_35 : decode cX3_copyFrom 35 = .ok (.invokevirtual 40, 3) := by decide +kernel
theorem dX3_copyFrom_38 : decode cX3_copyFrom 38 = .ok (.aload_n 0, 1) := by decide +kernel
theorem dX3_copyFrom_39 : decode cX3_copyFrom 39 = .ok (.aload_n 1, 1) := by decide +kernel
theorem dX3_copyFrom_40 : decode cX3_copyFrom 40 = .ok (.getfield 34, 3) := by decide +kernel
theorem dX3_copyFrom_43 : decode cX3_copyFrom 43 = .ok (.putfield 34, 3) := by decide +kernel
theorem dX3_copyFrom_46 : decode cX3_copyFrom 46 = .ok (.aload_n 0, 1) := by decide +kernel
theorem dX3_copyFrom_47 : decode cX3_copyFrom 47 = .ok (.aload_n 1, 1) := by decide +kernel
theorem dX3_copyFrom_48 : decode cX3_copyFrom 48 = .ok (.getfield 37, 3) := by decide +kernel
theorem dX3_copyFrom_51 : decode cX3_copyFrom 51 = .ok (.putfield 37, 3) := by decide +kernel
theorem dX3_copyFrom_54 : decode cX3_copyFrom 54 = .ok (.return_, 1) := by decide +kernel
set_option maxRecDepth 20000 in
theorem ggX3_passMinute_X10_bit : GoodIn wsX3_passMinute wsX10_bit := goodIn_r _ [12] (by decide +kernel) (by decide +kernel)
set_option maxRecDepth 20000 in
theorem gX3_passMinute_X10_bit_n44 : GoodIn wsX3_passMinute (wsX10_bit) := ggX3_passMinute_X10_bit
set_option maxRecDepth 20000 in
theorem ggX3_passMinute_X8_get : GoodIn wsX3_passMinute wsX8_get := goodIn_r _ [17, 18, 38] (by decide +kernel) (by decide +kernel)
set_option maxRecDepth 20000 in
theorem gX3_passMinute_X8_get : GoodIn wsX3_passMinute (wsV RX3 48 RX8 yX8_get wsX8_get) := goodIn_app (goodIn_of _ (by decide +kernel)) ggX3_passMinute_X8_get
set_option maxRecDepth 20000 in
theorem ggX3_passMinute_X8_set : GoodIn wsX3_passMinute wsX8_set := goodIn_r _ [22, 18, 38] (by decide +kernel) (by decide +kernel)
set_option maxRecDepth 20000 in
theorem gX3_passMinute_X8_set : GoodIn wsX3_passMinute (wsV RX3 57 RX8 yX8_set wsX8_set) := goodIn_app (goodIn_of _ (by decide +kernel)) ggX3_passMinute_X8_set
set_option maxRecDepth 20000 in
theorem ggX3_passMinute_X1_bears : GoodIn wsX3_passMinute wsX1_bears := goodIn_r _ [27, 28, 29, 14, 15, 16, 17, 18, 36, 37, 38] (by decide +kernel) (by decide +kernel)
set_option maxRecDepth 20000 in
theorem gX3_passMinute_X1_bears : GoodIn wsX3_passMinute (wsV RX3 66 RX1 yX1_bears wsX1_bears) := goodIn_app (goodIn_of _ (by decide +kernel)) ggX3_passMinute_X1_bears
theorem dX3_passMinute_0 : decode cX3_passMinute 0 = .ok (.iconst 0, 1) := by decide +kernel
theorem dX3_passMinute_1 : decode cX3_passMinute 1 = .ok (.istore_n 3, 1) := by decide +kernel
theorem dX3_passMinute_2 : decode cX3_passMinute 2 = .ok (.iload_n 3, 1) := by decide +kernel
theorem dX3_passMinute_3 : decode cX3_passMinute 3 = .ok (.bipush 7, 2) := by decide +kernel
theorem dX3_passMinute_5 : decode cX3_passMinute 5 = .ok (.if_icmp .ge 57, 3) := by decide +kernel
theorem dX3_passMinute_8 : decode cX3_passMinute 8 = .ok (.iload_n 2, 1) := by decide +kernel
theorem dX3_passMinute_9 : decode cX3_passMinute 9 = .ok (.iload_n 3, 1) := by decide +kernel
theorem dX3_passMinute_10 : decode cX3_passMinute 10 = .ok (.invokestatic 44, 3) := by decide +kernel
theorem dX3_passMinute_13 : decode cX3_passMinute 13 = .ok (.iconst 1, 1) := by decide +kernel
theorem dX3_passMinute_14 : decode cX3_passMinute 14 = .ok (.if_icmp .ne 7, 3) := by decide +kernel
theorem dX3_passMinute_17 : decode cX3_passMinute 17 = .ok (.iconst 1, 1) := by decide +kernel
theorem dX3_passMinute_18 : decode cX3_passMinute 18 = .ok (.goto 4, 3) := by decide +kernel
theorem dX3_passMinute_21 : decode cX3_passMinute 21 = .ok (.iconst 0, 1) := by decide +kernel
theorem dX3_passMinute_22 : decode cX3_passMinute 22 = .ok (.istore 4, 2) := by decide +kernel
theorem dX3_passMinute_24 : decode cX3_passMinute 24 = .ok (.aload_n 0, 1) := by decide +kernel
theorem dX3_passMinute_25 : decode cX3_passMinute 25 = .ok (.getfield 14, 3) := by decide +kernel
theorem dX3_passMinute_28 : decode cX3_passMinute 28 = .ok (.iload_n 3, 1) := by decide +kernel
theorem dX3_passMinute_29 : decode cX3_passMinute 29 = .ok (.iload 4, 2) := by decide +kernel
theorem dX3_passMinute_31 : decode cX3_passMinute 31 = .ok (.ifCond .eq 7, 3) := by decide +kernel
theorem dX3_passMinute_34 : decode cX3_passMinute 34 = .ok (.iconst 0, 1) := by decide +kernel
theorem dX3_passMinute_35 : decode cX3_passMinute 35 = .ok (.goto 18, 3) := by decide +kernel
theorem dX3_passMinute_38 : decode cX3_passMinute 38 = .ok (.bipush 9, 2) := by decide +kernel
theorem dX3_passMinute_40 : decode cX3_passMinute 40 = .ok (.aload_n 0, 1) := by decide +kernel
theorem dX3_passMinute_41 : decode cX3_passMinute 41 = .ok (.getfield 14, 3) := by decide +kernel
theorem dX3_passMinute_44 : decode cX3_passMinute 44 = .ok (.iload_n 3, 1) := by decide +kernel
theorem dX3_passMinute_45 : decode cX3_passMinute 45 = .ok (.invokevirtual 48, 3) := by decide +kernel
theorem dX3_passMinute_48 : decode cX3_passMinute 48 = .ok (.iconst 1, 1) := by decide +kernel
theorem dX3_passMinute_49 : decode cX3_passMinute 49 = .ok (.iadd, 1) := by decide +kernel
theorem dX3_passMinute_50 : decode cX3_passMinute 50 = .ok (.invokestatic 52, 3) := by decide +kernel
theorem dX3_passMinute_53 : decode cX3_passMinute 53 = .ok (.invokevirtual 57, 3) := by decide +kernel
theorem dX3_passMinute_56 : decode cX3_passMinute 56 = .ok (.iinc 3 1, 3) := by decide +kernel
theorem dX3_passMinute_59 : decode cX3_passMinute 59 = .ok (.goto (-57), 3) := by decide +kernel
theorem dX3_passMinute_62 : decode cX3_passMinute 62 = .ok (.iconst 0, 1) := by decide +kernel
theorem dX3_passMinute_63 : decode cX3_passMinute 63 = .ok (.istore_n 3, 1) := by decide +kernel
theorem dX3_passMinute_64 : decode cX3_passMinute 64 = .ok (.iload_n 3, 1) := by decide +kernel
theorem dX3_passMinute_65 : decode cX3_passMinute 65 = .ok (.aload_n 1, 1) := by decide +kernel
theorem dX3_passMinute_66 : decode cX3_passMinute 66 = .ok (.getfield 61, 3) := by decide +kernel
theorem dX3_passMinute_69 : decode cX3_passMinute 69 = .ok (.if_icmp .ge 44, 3) := by decide +kernel
theorem dX3_passMinute_72 : decode cX3_passMinute 72 = .ok (.aload_n 0, 1) := by decide +kernel
theorem dX3_passMinute_73 : decode cX3_passMinute 73 = .ok (.getfield 14, 3) := by decide +kernel
theorem dX3_passMinute_76 : decode cX3_passMinute 76 = .ok (.aload_n 0, 1) := by decide +kernel
theorem dX3_passMinute_77 : decode cX3_passMinute 77 = .ok (.getfield 20, 3) := by decide +kernel
theorem dX3_passMinute_80 : decode cX3_passMinute 80 = .ok (.iload_n 3, 1) := by decide +kernel
theorem dX3_passMinute_81 : decode cX3_passMinute 81 = .ok (.invokevirtual 48, 3) := by decide +kernel
theorem dX3_passMinute_84 : decode cX3_passMinute 84 = .ok (.invokevirtual 48, 3) := by decide +kernel
theorem dX3_passMinute_87 : decode cX3_passMinute 87 = .ok (.aload_n 1, 1) := by decide +kernel
theorem dX3_passMinute_88 : decode cX3_passMinute 88 = .ok (.iload_n 3, 1) := by decide +kernel
theorem dX3_passMinute_89 : decode cX3_passMinute 89 = .ok (.invokevirtual 66, 3) := by decide +kernel
theorem dX3_passMinute_92 : decode cX3_passMinute 92 = .ok (.if_icmp .le 15, 3) := by decide +kernel
theorem dX3_passMinute_95 : decode cX3_passMinute 95 = .ok (.aload_n 0, 1) := by decide +kernel
theorem dX3_passMinute_96 : decode cX3_passMinute 96 = .ok (.dup, 1) := by decide +kernel
theorem dX3_passMinute_97 : decode cX3_passMinute 97 = .ok (.getfield 34, 3) := by decide +kernel
theorem dX3_passMinute_100 : decode cX3_passMinute 100 = .ok (.iconst 1, 1) := by decide +kernel
theorem dX3_passMinute_101 : decode cX3_passMinute 101 = .ok (.iload_n 3, 1) := by decide +kernel
theorem dX3_passMinute_102 : decode cX3_passMinute 102 = .ok (.ishl, 1) := by decide +kernel
theorem dX3_passMinute_103 : decode cX3_passMinute 103 = .ok (.ior, 1) := by decide +kernel
theorem dX3_passMinute_104 : decode cX3_passMinute 104 = .ok (.putfield 34, 3) := by decide +kernel
theorem dX3_passMinute_107 : decode cX3_passMinute 107 = .ok (.iinc 3 1, 3) := by decide +kernel
theorem dX3_passMinute_110 : decode cX3_passMinute 110 = .ok (.goto (-46), 3) := by decide +kernel
theorem dX3_passMinute_113 : decode cX3_passMinute 113 = .ok (.aload_n 0, 1) := by decide +kernel
theorem dX3_passMinute_114 : decode cX3_passMinute 114 = .ok (.dup, 1) := by decide +kernel
theorem dX3_passMinute_115 : decode cX3_passMinute 115 = .ok (.getfield 37, 3) := by decide +kernel
theorem dX3_passMinute_118 : decode cX3_passMinute 118 = .ok (.iconst 1, 1) := by decide +kernel
theorem dX3_passMinute_119 : decode cX3_passMinute 119 = .ok (.iadd, 1) := by decide +kernel
theorem dX3_passMinute_120 : decode cX3_passMinute 120 = .ok (.putfield 37, 3) := by decide +kernel
theorem dX3_passMinute_123 : decode cX3_passMinute 123 = .ok (.return_, 1) := by decide +kernel
set_option maxRecDepth 20000 in
theorem ggX4_init_X8_init : GoodIn wsX4_init wsX8_init := goodIn_r _ [14, 15, 2, 3, 16, 17, 21] (by decide +kernel) (by decide +kernel)
set_option maxRecDepth 20000 in
theorem gX4_init_X8_init : GoodIn wsX4_init (wsX8_init) := ggX4_init_X8_init
set_option maxRecDepth 20000 in
theorem ggX4_init_X6_init : GoodIn wsX4_init wsX6_init := goodIn_r _ [19, 20, 2, 3] (by decide +kernel) (by decide +kernel)
set_option maxRecDepth 20000 in
theorem gX4_init_X6_init_n22 : GoodIn wsX4_init (wsX6_init) := ggX4_init_X6_init
theorem dX4_init_0 : decode cX4_init 0 = .ok (.aload_n 0, 1) := by decide +kernel
theorem dX4_init_1 : decode cX4_init 1 = .ok (.invokespecial 3, 3) := by decide +kernel
theorem dX4_init_4 : decode cX4_init 4 = .ok (.aload_n 0, 1) := by decide +kernel
theorem dX4_init_5 : decode cX4_init 5 = .ok (.new 9, 3) := by decide +kernel
theorem dX4_init_8 : decode cX4_init 8 = .ok (.dup, 1) := by decide +kernel
theorem dX4_init_9 : decode cX4_init 9 = .ok (.bipush 66, 2) := by decide +kernel
theorem dX4_init_11 : decode cX4_init 11 = .ok (.invokespecial 11, 3) := by decide +kernel
theorem dX4_init_14 : decode cX4_init 14 = .ok (.putfield 14, 3) := by decide +kernel
theorem dX4_init_17 : decode cX4_init 17 = .ok (.aload_n 0, 1) := by decide +kernel
theorem dX4_init_18 : decode cX4_init 18 = .ok (.new 20, 3) := by decide +kernel
theorem dX4_init_21 : decode cX4_init 21 = .ok (.dup, 1) := by decide +kernel
theorem dX4_init_22 : decode cX4_init 22 = .ok (.invokespecial 22, 3) := by decide +kernel
theorem dX4_init_25 : decode cX4_init 25 = .ok (.putfield 23, 3) := by decide +kernel
theorem dX4_init_28 : decode cX4_init 28 = .ok (.return_, 1) := by decide +kernel
set_option maxRecDepth 20000 in
theorem ggX4_lettersIn_X4_byteOf : GoodIn wsX4_lettersIn wsX4_byteOf := goodIn_r _ [4, 5] (by decide +kernel) (by decide +kernel)
set_option maxRecDepth 20000 in
theorem gX4_lettersIn_X4_byteOf : GoodIn wsX4_lettersIn (va_wsS RX4 27 yX4_byteOf wsX4_byteOf) := goodIn_app (goodIn_of _ (by decide +kernel)) ggX4_lettersIn_X4_byteOf
theorem dX4_lettersIn_0 : decode cX4_lettersIn 0 = .ok (.iconst 0, 1) := by decide +kernel
theorem dX4_lettersIn_1 : decode cX4_lettersIn 1 = .ok (.istore_n 2, 1) := by decide +kernel
theorem dX4_lettersIn_2 : decode cX4_lettersIn 2 = .ok (.iconst 0, 1) := by decide +kernel
theorem dX4_lettersIn_3 : decode cX4_lettersIn 3 = .ok (.istore_n 3, 1) := by decide +kernel
theorem dX4_lettersIn_4 : decode cX4_lettersIn 4 = .ok (.iload_n 3, 1) := by decide +kernel
theorem dX4_lettersIn_5 : decode cX4_lettersIn 5 = .ok (.bipush 8, 2) := by decide +kernel
theorem dX4_lettersIn_7 : decode cX4_lettersIn 7 = .ok (.if_icmp .ge 43, 3) := by decide +kernel
theorem dX4_lettersIn_10 : decode cX4_lettersIn 10 = .ok (.lload_n 0, 1) := by decide +kernel
theorem dX4_lettersIn_11 : decode cX4_lettersIn 11 = .ok (.iload_n 3, 1) := by decide +kernel
theorem dX4_lettersIn_12 : decode cX4_lettersIn 12 = .ok (.invokestatic 27, 3) := by decide +kernel
theorem dX4_lettersIn_15 : decode cX4_lettersIn 15 = .ok (.istore 4, 2) := by decide +kernel
theorem dX4_lettersIn_17 : decode cX4_lettersIn 17 = .ok (.iload 4, 2) := by decide +kernel
theorem dX4_lettersIn_19 : decode cX4_lettersIn 19 = .ok (.bipush 126, 2) := by decide +kernel
theorem dX4_lettersIn_21 : decode cX4_lettersIn 21 = .ok (.if_icmp .gt 13, 3) := by decide +kernel
theorem dX4_lettersIn_24 : decode cX4_lettersIn 24 = .ok (.iload 4, 2) := by decide +kernel
theorem dX4_lettersIn_26 : decode cX4_lettersIn 26 = .ok (.ifCond .eq 10, 3) := by decide +kernel
theorem dX4_lettersIn_29 : decode cX4_lettersIn 29 = .ok (.iload_n 2, 1) := by decide +kernel
theorem dX4_lettersIn_30 : decode cX4_lettersIn 30 = .ok (.iload_n 3, 1) := by decide +kernel
theorem dX4_lettersIn_31 : decode cX4_lettersIn 31 = .ok (.if_icmp .ge 5, 3) := by decide +kernel
theorem dX4_lettersIn_34 : decode cX4_lettersIn 34 = .ok (.iconst (-1), 1) := by decide +kernel
theorem dX4_lettersIn_35 : decode cX4_lettersIn 35 = .ok (.ireturn, 1) := by decide +kernel
theorem dX4_lettersIn_36 : decode cX4_lettersIn 36 = .ok (.iload 4, 2) := by decide +kernel
theorem dX4_lettersIn_38 : decode cX4_lettersIn 38 = .ok (.ifCond .eq 6, 3) := by decide +kernel
theorem dX4_lettersIn_41 : decode cX4_lettersIn 41 = .ok (.iinc 2 1, 3) := by decide +kernel
theorem dX4_lettersIn_44 : decode cX4_lettersIn 44 = .ok (.iinc 3 1, 3) := by decide +kernel
theorem dX4_lettersIn_47 : decode cX4_lettersIn 47 = .ok (.goto (-43), 3) := by decide +kernel
theorem dX4_lettersIn_50 : decode cX4_lettersIn 50 = .ok (.iload_n 2, 1) := by decide +kernel
theorem dX4_lettersIn_51 : decode cX4_lettersIn 51 = .ok (.ireturn, 1) := by decide +kernel
theorem dX4_byteOf_0 : decode cX4_byteOf 0 = .ok (.lload_n 0, 1) := by decide +kernel
theorem dX4_byteOf_1 : decode cX4_byteOf 1 = .ok (.bipush 8, 2) := by decide +kernel
theorem dX4_byteOf_3 : decode cX4_byteOf 3 = .ok (.iload_n 2, 1) := by decide +kernel
theorem dX4_byteOf_4 : decode cX4_byteOf 4 = .ok (.imul, 1) := by decide +kernel
theorem dX4_byteOf_5 : decode cX4_byteOf 5 = .ok (.lushr, 1) := by decide +kernel
theorem dX4_byteOf_6 : decode cX4_byteOf 6 = .ok (.ldc2_w 31, 3) := by decide +kernel
theorem dX4_byteOf_9 : decode cX4_byteOf 9 = .ok (.land, 1) := by decide +kernel
theorem dX4_byteOf_10 : decode cX4_byteOf 10 = .ok (.l2i, 1) := by decide +kernel
theorem dX4_byteOf_11 : decode cX4_byteOf 11 = .ok (.ireturn, 1) := by decide +kernel
set_option maxRecDepth 20000 in
theorem ggX4_append_X4_byteOf : GoodIn wsX4_append wsX4_byteOf := goodIn_r _ [6, 7] (by decide +kernel) (by decide +kernel)
set_option maxRecDepth 20000 in
theorem gX4_append_X4_byteOf : GoodIn wsX4_append (va_wsS RX4 27 yX4_byteOf wsX4_byteOf) := goodIn_app (goodIn_of _ (by decide +kernel)) ggX4_append_X4_byteOf
end
section
set_option maxRecDepth 20000 in
theorem ggX4_append_X8_set : GoodIn wsX4_append wsX8_set := goodIn_r _ [12, 13, 17] (by decide +kernel) (by decide +kernel)
set_option maxRecDepth 20000 in
theorem gX4_append_X8_set : GoodIn wsX4_append (wsV RX4 37 RX8 yX8_set wsX8_set) := goodIn_app (goodIn_of _ (by decide +kernel)) ggX4_append_X8_set
theorem dX4_append_0 : decode cX4_append 0 = .ok (.iconst 0, 1) := by decide +kernel
theorem dX4_append_1 : decode cX4_append 1 = .ok (.istore 4, 2) := by decide +kernel
theorem dX4_append_3 : decode cX4_append 3 = .ok (.iload 4, 2) := by decide +kernel
theorem dX4_append_5 : decode cX4_append 5 = .ok (.iload_n 3, 1) := by decide +kernel
theorem dX4_append_6 : decode cX4_append 6 = .ok (.if_icmp .ge 36, 3) := by decide +kernel
theorem dX4_append_9 : decode cX4_append 9 = .ok (.aload_n 0, 1) := by decide +kernel
theorem dX4_append_10 : decode cX4_append 10 = .ok (.getfield 14, 3) := by decide +kernel
theorem dX4_append_13 : decode cX4_append 13 = .ok (.aload_n 0, 1) := by decide +kernel
theorem dX4_append_14 : decode cX4_append 14 = .ok (.getfield 33, 3) := by decide +kernel
theorem dX4_append_17 : decode cX4_append 17 = .ok (.lload_n 1, 1) := by decide +kernel
theorem dX4_append_18 : decode cX4_append 18 = .ok (.iload 4, 2) := by decide +kernel
theorem dX4_append_20 : decode cX4_append 20 = .ok (.invokestatic 27, 3) := by decide +kernel
theorem dX4_append_23 : decode cX4_append 23 = .ok (.invokevirtual 37, 3) := by decide +kernel
theorem dX4_append_26 : decode cX4_append 26 = .ok (.aload_n 0, 1) := by decide +kernel
theorem dX4_append_27 : decode cX4_append 27 = .ok (.dup, 1) := by decide +kernel
theorem dX4_append_28 : decode cX4_append 28 = .ok (.getfield 33, 3) := by decide +kernel
theorem dX4_append_31 : decode cX4_append 31 = .ok (.iconst 1, 1) := by decide +kernel
theorem dX4_append_32 : decode cX4_append 32 = .ok (.iadd, 1) := by decide +kernel
theorem dX4_append_33 : decode cX4_append 33 = .ok (.putfield 33, 3) := by decide +kernel
theorem dX4_append_36 : decode cX4_append 36 = .ok (.iinc 4 1, 3) := by decide +kernel
theorem dX4_append_39 : decode cX4_append 39 = .ok (.goto (-36), 3) := by decide +kernel
theorem dX4_append_42 : decode cX4_append 42 = .ok (.return_, 1) := by decide +kernel
set_option maxRecDepth 20000 in
theorem ggX4_firstFault_X6_start : GoodIn wsX4_firstFault wsX6_start := goodIn_r _ [8, 9, 10, 11, 39, 40, 41, 42] (by decide +kernel) (by decide +kernel)
set_option maxRecDepth 20000 in
theorem gX4_firstFault_X6_start : GoodIn wsX4_firstFault (wsV RX4 41 RX6 yX6_start wsX6_start) := goodIn_app (goodIn_of _ (by decide +kernel)) ggX4_firstFault_X6_start
set_option maxRecDepth 20000 in
theorem ggX4_firstFault_X8_get : GoodIn wsX4_firstFault wsX8_get := goodIn_r _ [16, 17, 43] (by decide +kernel) (by decide +kernel)
set_option maxRecDepth 20000 in
theorem gX4_firstFault_X8_get : GoodIn wsX4_firstFault (wsV RX4 44 RX8 yX8_get wsX8_get) := goodIn_app (goodIn_of _ (by decide +kernel)) ggX4_firstFault_X8_get
set_option maxRecDepth 20000 in
theorem ggX4_firstFault_X6_takes : GoodIn wsX4_firstFault wsX6_takes := goodIn_r _ [21, 9, 22, 10, 23, 24, 25, 26, 27, 28, 7, 29, 30, 31, 32, 33, 11, 34, 35, 39, 40, 41, 42] (by decide +kernel) (by decide +kernel)
set_option maxRecDepth 20000 in
theorem gX4_firstFault_X6_takes : GoodIn wsX4_firstFault (wsV RX4 48 RX6 yX6_takes wsX6_takes) := goodIn_app (goodIn_of _ (by decide +kernel)) ggX4_firstFault_X6_takes
theorem dX4_firstFault_0 : decode cX4_firstFault 0 = .ok (.aload_n 0, 1) := by decide +kernel
theorem dX4_firstFault_1 : decode cX4_firstFault 1 = .ok (.getfield 23, 3) := by decide +kernel
theorem dX4_firstFault_4 : decode cX4_firstFault 4 = .ok (.invokevirtual 41, 3) := by decide +kernel
theorem dX4_firstFault_7 : decode cX4_firstFault 7 = .ok (.iconst 0, 1) := by decide +kernel
theorem dX4_firstFault_8 : decode cX4_firstFault 8 = .ok (.istore_n 1, 1) := by decide +kernel
theorem dX4_firstFault_9 : decode cX4_firstFault 9 = .ok (.iload_n 1, 1) := by decide +kernel
theorem dX4_firstFault_10 : decode cX4_firstFault 10 = .ok (.aload_n 0, 1) := by decide +kernel
theorem dX4_firstFault_11 : decode cX4_firstFault 11 = .ok (.getfield 33, 3) := by decide +kernel
theorem dX4_firstFault_14 : decode cX4_firstFault 14 = .ok (.if_icmp .ge 29, 3) := by decide +kernel
theorem dX4_firstFault_17 : decode cX4_firstFault 17 = .ok (.aload_n 0, 1) := by decide +kernel
theorem dX4_firstFault_18 : decode cX4_firstFault 18 = .ok (.getfield 23, 3) := by decide +kernel
theorem dX4_firstFault_21 : decode cX4_firstFault 21 = .ok (.aload_n 0, 1) := by decide +kernel
theorem dX4_firstFault_22 : decode cX4_firstFault 22 = .ok (.getfield 14, 3) := by decide +kernel
theorem dX4_firstFault_25 : decode cX4_firstFault 25 = .ok (.iload_n 1, 1) := by decide +kernel
theorem dX4_firstFault_26 : decode cX4_firstFault 26 = .ok (.invokevirtual 44, 3) := by decide +kernel
theorem dX4_firstFault_29 : decode cX4_firstFault 29 = .ok (.invokevirtual 48, 3) := by decide +kernel
theorem dX4_firstFault_32 : decode cX4_firstFault 32 = .ok (.ifCond .ne 5, 3) := by decide +kernel
theorem dX4_firstFault_35 : decode cX4_firstFault 35 = .ok (.iload_n 1, 1) := by decide +kernel
theorem dX4_firstFault_36 : decode cX4_firstFault 36 = .ok (.ireturn, 1) := by decide +kernel
theorem dX4_firstFault_37 : decode cX4_firstFault 37 = .ok (.iinc 1 1, 3) := by decide +kernel
theorem dX4_firstFault_40 : decode cX4_firstFault 40 = .ok (.goto (-31), 3) := by decide +kernel
theorem dX4_firstFault_43 : decode cX4_firstFault 43 = .ok (.aload_n 0, 1) := by decide +kernel
theorem dX4_firstFault_44 : decode cX4_firstFault 44 = .ok (.getfield 33, 3) := by decide +kernel
theorem dX4_firstFault_47 : decode cX4_firstFault 47 = .ok (.ireturn, 1) := by decide +kernel
set_option maxRecDepth 20000 in
theorem ggX4_isMine_X4_firstFault : GoodIn wsX4_isMine wsX4_firstFault := goodIn_r _ [7, 2, 1, 8, 9, 10, 11, 12, 13, 14, 15, 16, 17, 18, 19, 20, 21, 22, 23, 24, 25, 26, 27, 28, 29, 30, 31, 32, 33, 34, 35, 36, 37, 38, 39, 40, 52, 53, 54, 55, 56, 57, 58, 59] (by decide +kernel) (by decide +kernel)
set_option maxRecDepth 20000 in
theorem gX4_isMine_X4_firstFault : GoodIn wsX4_isMine (wsV RX4 52 RX4 yX4_firstFault wsX4_firstFault) := goodIn_app (goodIn_of _ (by decide +kernel)) ggX4_isMine_X4_firstFault
set_option maxRecDepth 20000 in
theorem ggX4_isMine_X6_mayEnd : GoodIn wsX4_isMine wsX6_mayEnd := goodIn_r _ [44, 14, 16, 45, 46, 47, 48, 49, 50, 51, 55, 56, 57, 58] (by decide +kernel) (by decide +kernel)
set_option maxRecDepth 20000 in
theorem gX4_isMine_X6_mayEnd : GoodIn wsX4_isMine (wsV RX4 56 RX6 yX6_mayEnd wsX6_mayEnd) := goodIn_app (goodIn_of _ (by decide +kernel)) ggX4_isMine_X6_mayEnd
theorem dX4_isMine_0 : decode cX4_isMine 0 = .ok (.aload_n 0, 1) := by decide +kernel
theorem dX4_isMine_1 : decode cX4_isMine 1 = .ok (.invokevirtual 52, 3) := by decide +kernel
theorem dX4_isMine_4 : decode cX4_isMine 4 = .ok (.aload_n 0, 1) := by decide +kernel
theorem dX4_isMine_5 : decode cX4_isMine 5 = .ok (.getfield 33, 3) := by decide +kernel
theorem dX4_isMine_8 : decode cX4_isMine 8 = .ok (.if_icmp .ne 17, 3) := by decide +kernel
theorem dX4_isMine_11 : decode cX4_isMine 11 = .ok (.aload_n 0, 1) := by decide +kernel
theorem dX4_isMine_12 : decode cX4_isMine 12 = .ok (.getfield 23, 3) := by decide +kernel
theorem dX4_isMine_15 : decode cX4_isMine 15 = .ok (.invokevirtual 56, 3) := by decide +kernel
theorem dX4_isMine_18 : decode cX4_isMine 18 = .ok (.ifCond .eq 7, 3) := by decide +kernel
theorem dX4_isMine_21 : decode cX4_isMine 21 = .ok (.iconst 1, 1) := by decide +kernel
theorem dX4_isMine_22 : decode cX4_isMine 22 = .ok (.goto 4, 3) := by decide +kernel
theorem dX4_isMine_25 : decode cX4_isMine 25 = .ok (.iconst 0, 1) := by decide +kernel
theorem dX4_isMine_26 : decode cX4_isMine 26 = .ok (.ireturn, 1) := by decide +kernel
set_option maxRecDepth 20000 in
theorem ggX4_digit_X8_get : GoodIn wsX4_digit wsX8_get := goodIn_r _ [6, 7, 11] (by decide +kernel) (by decide +kernel)
set_option maxRecDepth 20000 in
theorem gX4_digit_X8_get : GoodIn wsX4_digit (wsV RX4 44 RX8 yX8_get wsX8_get) := goodIn_app (goodIn_of _ (by decide +kernel)) ggX4_digit_X8_get
theorem dX4_digit_0 : decode cX4_digit 0 = .ok (.aload_n 0, 1) := by decide +kernel
theorem dX4_digit_1 : decode cX4_digit 1 = .ok (.getfield 14, 3) := by decide +kernel
theorem dX4_digit_4 : decode cX4_digit 4 = .ok (.iload_n 1, 1) := by decide +kernel
theorem dX4_digit_5 : decode cX4_digit 5 = .ok (.invokevirtual 44, 3) := by decide +kernel
theorem dX4_digit_8 : decode cX4_digit 8 = .ok (.bipush 48, 2) := by decide +kernel
theorem dX4_digit_10 : decode cX4_digit 10 = .ok (.isub, 1) := by decide +kernel
theorem dX4_digit_11 : decode cX4_digit 11 = .ok (.ireturn, 1) := by decide +kernel
set_option maxRecDepth 20000 in
theorem ggX5_init_X8_init : GoodIn wsX5_init wsX8_init := goodIn_r _ [13, 14, 2, 3, 15, 16, 17] (by decide +kernel) (by decide +kernel)
set_option maxRecDepth 20000 in
theorem gX5_init_X8_init : GoodIn wsX5_init (wsX8_init) := ggX5_init_X8_init
theorem dX5_init_0 : decode cX5_init 0 = .ok (.aload_n 0, 1) := by decide +kernel
theorem dX5_init_1 : decode cX5_init 1 = .ok (.invokespecial 3, 3) := by decide +kernel
theorem dX5_init_4 : decode cX5_init 4 = .ok (.aload_n 0, 1) := by decide +kernel
theorem dX5_init_5 : decode cX5_init 5 = .ok (.new 9, 3) := by decide +kernel
theorem dX5_init_8 : decode cX5_init 8 = .ok (.dup, 1) := by decide +kernel
theorem dX5_init_9 : decode cX5_init 9 = .ok (.bipush 10, 2) := by decide +kernel
theorem dX5_init_11 : decode cX5_init 11 = .ok (.invokespecial 11, 3) := by decide +kernel
theorem dX5_init_14 : decode cX5_init 14 = .ok (.putfield 14, 3) := by decide +kernel
theorem dX5_init_17 : decode cX5_init 17 = .ok (.aload_n 0, 1) := by decide +kernel
theorem dX5_init_18 : decode cX5_init 18 = .ok (.new 9, 3) := by decide +kernel
theorem dX5_init_21 : decode cX5_init 21 = .ok (.dup, 1) := by decide +kernel
theorem dX5_init_22 : decode cX5_init 22 = .ok (.bipush 10, 2) := by decide +kernel
theorem dX5_init_24 : decode cX5_init 24 = .ok (.invokespecial 11, 3) := by decide +kernel
theorem dX5_init_27 : decode cX5_init 27 = .ok (.putfield 20, 3) := by decide +kernel
theorem dX5_init_30 : decode cX5_init 30 = .ok (.aload_n 0, 1) := by decide +kernel
theorem dX5_init_31 : decode cX5_init 31 = .ok (.new 9, 3) := by decide +kernel
theorem dX5_init_34 : decode cX5_init 34 = .ok (.dup, 1) := by decide +kernel
theorem dX5_init_35 : decode cX5_init 35 = .ok (.bipush 10, 2) := by decide +kernel
theorem dX5_init_37 : decode cX5_init 37 = .ok (.invokespecial 11, 3) := by decide +kernel
theorem dX5_init_40 : decode cX5_init 40 = .ok (.putfield 23, 3) := by decide +kernel
theorem dX5_init_43 : decode cX5_init 43 = .ok (.aload_n 0, 1) := by decide +kernel
theorem dX5_init_44 : decode cX5_init 44 = .ok (.new 9, 3) := by decide +kernel
theorem dX5_init_47 : decode cX5_init 47 = .ok (.dup, 1) := by decide +kernel
theorem dX5_init_48 : decode cX5_init 48 = .ok (.bipush 7, 2) := by decide +kernel
theorem dX5_init_50 : decode cX5_init 50 = .ok (.invokespecial 11, 3) := by decide +kernel
theorem dX5_init_53 : decode cX5_init 53 = .ok (.putfield 26, 3) := by decide +kernel
theorem dX5_init_56 : decode cX5_init 56 = .ok (.return_, 1) := by decide +kernel
theorem dX5_isRead_0 : decode cX5_isRead 0 = .ok (.aload_n 0, 1) := by decide +kernel
theorem dX5_isRead_1 : decode cX5_isRead 1 = .ok (.getfield 29, 3) := by decide +kernel
theorem dX5_isRead_4 : decode cX5_isRead 4 = .ok (.ifCond .le 7, 3) := by decide +kernel
theorem dX5_isRead_7 : decode cX5_isRead 7 = .ok (.iconst 1, 1) := by decide +kernel
theorem dX5_isRead_8 : decode cX5_isRead 8 = .ok (.goto 4, 3) := by decide +kernel
theorem dX5_isRead_11 : decode cX5_isRead 11 = .ok (.iconst 0, 1) := by decide +kernel
theorem dX5_isRead_12 : decode cX5_isRead 12 = .ok (.ireturn, 1) := by decide +kernel
theorem dX5_hasGallery_0 : decode cX5_hasGallery 0 = .ok (.iload_n 1, 1) := by decide +kernel
theorem dX5_hasGallery_1 : decode cX5_hasGallery 1 = .ok (.ifCond .lt 15, 3) := by decide +kernel
theorem dX5_hasGallery_4 : decode cX5_hasGallery 4 = .ok (.iload_n 1, 1) := by decide +kernel
theorem dX5_hasGallery_5 : decode cX5_hasGallery 5 = .ok (.aload_n 0, 1) := by decide +kernel
theorem dX5_hasGallery_6 : decode cX5_hasGallery 6 = .ok (.getfield 29, 3) := by decide +kernel
theorem dX5_hasGallery_9 : decode cX5_hasGallery 9 = .ok (.if_icmp .ge 7, 3) := by decide +kernel
theorem dX5_hasGallery_12 : decode cX5_hasGallery 12 = .ok (.iconst 1, 1) := by decide +kernel
theorem dX5_hasGallery_13 : decode cX5_hasGallery 13 = .ok (.goto 4, 3) := by decide +kernel
theorem dX5_hasGallery_16 : decode cX5_hasGallery 16 = .ok (.iconst 0, 1) := by decide +kernel
theorem dX5_hasGallery_17 : decode cX5_hasGallery 17 = .ok (.ireturn, 1) := by decide +kernel
set_option maxRecDepth 20000 in
theorem ggX5_isShaft_X10_bit : GoodIn wsX5_isShaft wsX10_bit := goodIn_r _ [4] (by decide +kernel) (by decide +kernel)
set_option maxRecDepth 20000 in
theorem gX5_isShaft_X10_bit_n36 : GoodIn wsX5_isShaft (wsX10_bit) := ggX5_isShaft_X10_bit
theorem dX5_isShaft_0 : decode cX5_isShaft 0 = .ok (.aload_n 0, 1) := by decide +kernel
theorem dX5_isShaft_1 : decode cX5_isShaft 1 = .ok (.getfield 33, 3) := by decide +kernel
theorem dX5_isShaft_4 : decode cX5_isShaft 4 = .ok (.iload_n 1, 1) := by decide +kernel
theorem dX5_isShaft_5 : decode cX5_isShaft 5 = .ok (.invokestatic 36, 3) := by decide +kernel
theorem dX5_isShaft_8 : decode cX5_isShaft 8 = .ok (.iconst 1, 1) := by decide +kernel
theorem dX5_isShaft_9 : decode cX5_isShaft 9 = .ok (.if_icmp .ne 7, 3) := by decide +kernel
theorem dX5_isShaft_12 : decode cX5_isShaft 12 = .ok (.iconst 1, 1) := by decide +kernel
theorem dX5_isShaft_13 : decode cX5_isShaft 13 = .ok (.goto 4, 3) := by decide +kernel
theorem dX5_isShaft_16 : decode cX5_isShaft 16 = .ok (.iconst 0, 1) := by decide +kernel
theorem dX5_isShaft_17 : decode cX5_isShaft 17 = .ok (.ireturn, 1) := by decide +kernel
theorem dX5_allGalleries_0 : decode cX5_allGalleries 0 = .ok (.iconst 1, 1) := by decide +kernel
theorem dX5_allGalleries_1 : decode cX5_allGalleries 1 = .ok (.aload_n 0, 1) := by decide +kernel
theorem dX5_allGalleries_2 : decode cX5_allGalleries 2 = .ok (.getfield 29, 3) := by decide +kernel
theorem dX5_allGalleries_5 : decode cX5_allGalleries 5 = .ok (.ishl, 1) := by decide +kernel
theorem dX5_allGalleries_6 : decode cX5_allGalleries 6 = .ok (.iconst 1, 1) := by decide +kernel
theorem dX5_allGalleries_7 : decode cX5_allGalleries 7 = .ok (.isub, 1) := by decide +kernel
theorem dX5_allGalleries_8 : decode cX5_allGalleries 8 = .ok (.ireturn, 1) := by decide +kernel
set_option maxRecDepth 20000 in
theorem ggX5_readFrom_X8_get : GoodIn wsX5_readFrom wsX8_get := goodIn_r _ [11, 12, 46] (by decide +kernel) (by decide +kernel)
set_option maxRecDepth 20000 in
theorem gX5_readFrom_X8_get : GoodIn wsX5_readFrom (wsV RX5 48 RX8 yX8_get wsX8_get) := goodIn_app (goodIn_of _ (by decide +kernel)) ggX5_readFrom_X8_get
set_option maxRecDepth 20000 in
theorem ggX5_readFrom_X4_digit : GoodIn wsX5_readFrom wsX4_digit := goodIn_r _ [17, 18, 19, 8, 9, 10, 11, 12, 43, 44, 45, 46] (by decide +kernel) (by decide +kernel)
set_option maxRecDepth 20000 in
theorem gX5_readFrom_X4_digit : GoodIn wsX5_readFrom (wsV RX5 52 RX4 yX4_digit wsX4_digit) := goodIn_app (goodIn_of _ (by decide +kernel)) ggX5_readFrom_X4_digit
set_option maxRecDepth 20000 in
theorem ggX5_readFrom_X8_set : GoodIn wsX5_readFrom wsX8_set := goodIn_r _ [23, 12, 46] (by decide +kernel) (by decide +kernel)
set_option maxRecDepth 20000 in
theorem gX5_readFrom_X8_set : GoodIn wsX5_readFrom (wsV RX5 55 RX8 yX8_set wsX8_set) := goodIn_app (goodIn_of _ (by decide +kernel)) ggX5_readFrom_X8_set
set_option maxRecDepth 20000 in
theorem ggX5_readFrom_X5_readShafts : GoodIn wsX5_readFrom wsX5_readShafts := goodIn_r _ [28, 29, 30, 31, 32, 33, 34, 10, 35, 12, 13, 14, 15, 16, 17, 18, 19, 8, 9, 11, 20, 21, 22, 23, 36, 37, 38, 39, 40, 41, 42, 43, 44, 45, 46] (by decide +kernel) (by decide +kernel)
set_option maxRecDepth 20000 in
theorem gX5_readFrom_X5_readShafts : GoodIn wsX5_readFrom (wsV RX5 59 RX5 yX5_readShafts wsX5_readShafts) := goodIn_app (goodIn_of _ (by decide +kernel)) ggX5_readFrom_X5_readShafts
theorem dX5_readFrom_0 : decode cX5_readFrom 0 = .ok (.aload_n 0, 1) := by decide +kernel
theorem dX5_readFrom_1 : decode cX5_readFrom 1 = .ok (.iconst 0, 1) := by decide +kernel
theorem dX5_readFrom_2 : decode cX5_readFrom 2 = .ok (.putfield 29, 3) := by decide +kernel
theorem dX5_readFrom_5 : decode cX5_readFrom 5 = .ok (.aload_n 0, 1) := by decide +kernel
theorem dX5_readFrom_6 : decode cX5_readFrom 6 = .ok (.iconst 0, 1) := by decide +kernel
theorem dX5_readFrom_7 : decode cX5_readFrom 7 = .ok (.putfield 40, 3) := by decide +kernel
theorem dX5_readFrom_10 : decode cX5_readFrom 10 = .ok (.iconst 0, 1) := by decide +kernel
theorem dX5_readFrom_11 : decode cX5_readFrom 11 = .ok (.istore_n 2, 1) := by decide +kernel
theorem dX5_readFrom_12 : decode cX5_readFrom 12 = .ok (.iconst 0, 1) := by decide +kernel
theorem dX5_readFrom_13 : decode cX5_readFrom 13 = .ok (.istore_n 3, 1) := by decide +kernel
theorem dX5_readFrom_14 : decode cX5_readFrom 14 = .ok (.iload_n 3, 1) := by decide +kernel
theorem dX5_readFrom_15 : decode cX5_readFrom 15 = .ok (.bipush 10, 2) := by decide +kernel
theorem dX5_readFrom_17 : decode cX5_readFrom 17 = .ok (.if_icmp .ge 115, 3) := by decide +kernel
theorem dX5_readFrom_20 : decode cX5_readFrom 20 = .ok (.iload_n 2, 1) := by decide +kernel
theorem dX5_readFrom_21 : decode cX5_readFrom 21 = .ok (.ifCond .eq 18, 3) := by decide +kernel
theorem dX5_readFrom_24 : decode cX5_readFrom 24 = .ok (.aload_n 1, 1) := by decide +kernel
theorem dX5_readFrom_25 : decode cX5_readFrom 25 = .ok (.getfield 43, 3) := by decide +kernel
theorem dX5_readFrom_28 : decode cX5_readFrom 28 = .ok (.iload_n 2, 1) := by decide +kernel
theorem dX5_readFrom_29 : decode cX5_readFrom 29 = .ok (.iconst 1, 1) := by decide +kernel
theorem dX5_readFrom_30 : decode cX5_readFrom 30 = .ok (.isub, 1) := by decide +kernel
theorem dX5_readFrom_31 : decode cX5_readFrom 31 = .ok (.invokevirtual 48, 3) := by decide +kernel
theorem dX5_readFrom_34 : decode cX5_readFrom 34 = .ok (.bipush 44, 2) := by decide +kernel
theorem dX5_readFrom_36 : decode cX5_readFrom 36 = .ok (.if_icmp .ne 96, 3) := by decide +kernel
theorem dX5_readFrom_39 : decode cX5_readFrom 39 = .ok (.aload_n 0, 1) := by decide +kernel
theorem dX5_readFrom_40 : decode cX5_readFrom 40 = .ok (.getfield 14, 3) := by decide +kernel
theorem dX5_readFrom_43 : decode cX5_readFrom 43 = .ok (.iload_n 3, 1) := by decide +kernel
theorem dX5_readFrom_44 : decode cX5_readFrom 44 = .ok (.aload_n 1, 1) := by decide +kernel
theorem dX5_readFrom_45 : decode cX5_readFrom 45 = .ok (.iload_n 2, 1) := by decide +kernel
theorem dX5_readFrom_46 : decode cX5_readFrom 46 = .ok (.invokevirtual 52, 3) := by decide +kernel
theorem dX5_readFrom_49 : decode cX5_readFrom 49 = .ok (.invokevirtual 55, 3) := by decide +kernel
theorem dX5_readFrom_52 : decode cX5_readFrom 52 = .ok (.aload_n 0, 1) := by decide +kernel
theorem dX5_readFrom_53 : decode cX5_readFrom 53 = .ok (.getfield 20, 3) := by decide +kernel
theorem dX5_readFrom_56 : decode cX5_readFrom 56 = .ok (.iload_n 3, 1) := by decide +kernel
theorem dX5_readFrom_57 : decode cX5_readFrom 57 = .ok (.aload_n 1, 1) := by decide +kernel
theorem dX5_readFrom_58 : decode cX5_readFrom 58 = .ok (.iload_n 2, 1) := by decide +kernel
theorem dX5_readFrom_59 : decode cX5_readFrom 59 = .ok (.iconst 1, 1) := by decide +kernel
theorem dX5_readFrom_60 : decode cX5_readFrom 60 = .ok (.iadd, 1) := by decide +kernel
theorem dX5_readFrom_61 : decode cX5_readFrom 61 = .ok (.invokevirtual 52, 3) := by decide +kernel
theorem dX5_readFrom_64 : decode cX5_readFrom 64 = .ok (.invokevirtual 55, 3) := by decide +kernel
theorem dX5_readFrom_67 : decode cX5_readFrom 67 = .ok (.aload_n 0, 1) := by decide +kernel
theorem dX5_readFrom_68 : decode cX5_readFrom 68 = .ok (.getfield 23, 3) := by decide +kernel
theorem dX5_readFrom_71 : decode cX5_readFrom 71 = .ok (.iload_n 3, 1) := by decide +kernel
theorem dX5_readFrom_72 : decode cX5_readFrom 72 = .ok (.aload_n 1, 1) := by decide +kernel
theorem dX5_readFrom_73 : decode cX5_readFrom 73 = .ok (.iload_n 2, 1) := by decide +kernel
theorem dX5_readFrom_74 : decode cX5_readFrom 74 = .ok (.iconst 2, 1) := by decide +kernel
theorem dX5_readFrom_75 : decode cX5_readFrom 75 = .ok (.iadd, 1) := by decide +kernel
theorem dX5_readFrom_76 : decode cX5_readFrom 76 = .ok (.invokevirtual 52, 3) := by decide +kernel
theorem dX5_readFrom_79 : decode cX5_readFrom 79 = .ok (.invokevirtual 55, 3) := by decide +kernel
theorem dX5_readFrom_82 : decode cX5_readFrom 82 = .ok (.aload_n 0, 1) := by decide +kernel
theorem dX5_readFrom_83 : decode cX5_readFrom 83 = .ok (.dup, 1) := by decide +kernel
theorem dX5_readFrom_84 : decode cX5_readFrom 84 = .ok (.getfield 29, 3) := by decide +kernel
theorem dX5_readFrom_87 : decode cX5_readFrom 87 = .ok (.iconst 1, 1) := by decide +kernel
theorem dX5_readFrom_88 : decode cX5_readFrom 88 = .ok (.iadd, 1) := by decide +kernel
theorem dX5_readFrom_89 : decode cX5_readFrom 89 = .ok (.putfield 29, 3) := by decide +kernel
theorem dX5_readFrom_92 : decode cX5_readFrom 92 = .ok (.iinc 2 3, 3) := by decide +kernel
theorem dX5_readFrom_95 : decode cX5_readFrom 95 = .ok (.aload_n 1, 1) := by decide +kernel
theorem dX5_readFrom_96 : decode cX5_readFrom 96 = .ok (.getfield 43, 3) := by decide +kernel
theorem dX5_readFrom_99 : decode cX5_readFrom 99 = .ok (.iload_n 2, 1) := by decide +kernel
theorem dX5_readFrom_100 : decode cX5_readFrom 100 = .ok (.invokevirtual 48, 3) := by decide +kernel
theorem dX5_readFrom_103 : decode cX5_readFrom 103 = .ok (.bipush 100, 2) := by decide +kernel
theorem dX5_readFrom_105 : decode cX5_readFrom 105 = .ok (.if_icmp .ne 18, 3) := by decide +kernel
theorem dX5_readFrom_108 : decode cX5_readFrom 108 = .ok (.aload_n 0, 1) := by decide +kernel
theorem dX5_readFrom_109 : decode cX5_readFrom 109 = .ok (.dup, 1) := by decide +kernel
theorem dX5_readFrom_110 : decode cX5_readFrom 110 = .ok (.getfield 40, 3) := by decide +kernel
theorem dX5_readFrom_113 : decode cX5_readFrom 113 = .ok (.iconst 1, 1) := by decide +kernel
theorem dX5_readFrom_114 : decode cX5_readFrom 114 = .ok (.iload_n 3, 1) := by decide +kernel
theorem dX5_readFrom_115 : decode cX5_readFrom 115 = .ok (.ishl, 1) := by decide +kernel
theorem dX5_readFrom_116 : decode cX5_readFrom 116 = .ok (.ior, 1) := by decide +kernel
theorem dX5_readFrom_117 : decode cX5_readFrom 117 = .ok (.putfield 40, 3) := by decide +kernel
theorem dX5_readFrom_120 : decode cX5_readFrom 120 = .ok (.iinc 2 1, 3) := by decide +kernel
theorem dX5_readFrom_123 : decode cX5_readFrom 123 = .ok (.iinc 2 1, 3) := by decide +kernel
theorem dX5_readFrom_126 : decode cX5_readFrom 126 = .ok (.iinc 3 1, 3) := by decide +kernel
theorem dX5_readFrom_129 : decode cX5_readFrom 129 = .ok (.goto (-115), 3) := by decide +kernel
theorem dX5_readFrom_132 : decode cX5_readFrom 132 = .ok (.aload_n 0, 1) := by decide +kernel
theorem dX5_readFrom_133 : decode cX5_readFrom 133 = .ok (.aload_n 1, 1) := by decide +kernel
theorem dX5_readFrom_134 : decode cX5_readFrom 134 = .ok (.iload_n 2, 1) := by decide +kernel
theorem dX5_readFrom_135 : decode cX5_readFrom 135 = .ok (.invokevirtual 59, 3) := by decide +kernel
theorem dX5_readFrom_138 : decode cX5_readFrom 138 = .ok (.return_, 1) := by decide +kernel
set_option maxRecDepth 20000 in
theorem ggX5_readShafts_X8_fill : GoodIn wsX5_readShafts wsX8_fill := goodIn_r _ [8, 9, 34] (by decide +kernel) (by decide +kernel)
set_option maxRecDepth 20000 in
theorem gX5_readShafts_X8_fill : GoodIn wsX5_readShafts (wsV RX5 63 RX8 yX8_fill wsX8_fill) := goodIn_app (goodIn_of _ (by decide +kernel)) ggX5_readShafts_X8_fill
set_option maxRecDepth 20000 in
theorem ggX5_readShafts_X4_digit : GoodIn wsX5_readShafts wsX4_digit := goodIn_r _ [14, 15, 16, 17, 18, 7, 19, 9, 31, 32, 33, 34] (by decide +kernel) (by decide +kernel)
set_option maxRecDepth 20000 in
theorem gX5_readShafts_X4_digit : GoodIn wsX5_readShafts (wsV RX5 52 RX4 yX4_digit wsX4_digit) := goodIn_app (goodIn_of _ (by decide +kernel)) ggX5_readShafts_X4_digit
set_option maxRecDepth 20000 in
theorem ggX5_readShafts_X8_set : GoodIn wsX5_readShafts wsX8_set := goodIn_r _ [23, 9, 34] (by decide +kernel) (by decide +kernel)
set_option maxRecDepth 20000 in
theorem gX5_readShafts_X8_set : GoodIn wsX5_readShafts (wsV RX5 55 RX8 yX8_set wsX8_set) := goodIn_app (goodIn_of _ (by decide +kernel)) ggX5_readShafts_X8_set
theorem dX5_readShafts_0 : decode cX5_readShafts 0 = .ok (.aload_n 0, 1) := by decide +kernel
theorem dX5_readShafts_1 : decode cX5_readShafts 1 = .ok (.getfield 26, 3) := by decide +kernel
theorem dX5_readShafts_4 : decode cX5_readShafts 4 = .ok (.iconst (-1), 1) := by decide +kernel
theorem dX5_readShafts_5 : decode cX5_readShafts 5 = .ok (.invokevirtual 63, 3) := by decide +kernel
theorem dX5_readShafts_8 : decode cX5_readShafts 8 = .ok (.aload_n 0, 1) := by decide +kernel
theorem dX5_readShafts_9 : decode cX5_readShafts 9 = .ok (.iconst 0, 1) := by decide +kernel
theorem dX5_readShafts_10 : decode cX5_readShafts 10 = .ok (.putfield 33, 3) := by decide +kernel
theorem dX5_readShafts_13 : decode cX5_readShafts 13 = .ok (.iload_n 2, 1) := by decide +kernel
theorem dX5_readShafts_14 : decode cX5_readShafts 14 = .ok (.istore_n 3, 1) := by decide +kernel
theorem dX5_readShafts_15 : decode cX5_readShafts 15 = .ok (.iload_n 3, 1) := by decide +kernel
theorem dX5_readShafts_16 : decode cX5_readShafts 16 = .ok (.iconst 1, 1) := by decide +kernel
theorem dX5_readShafts_17 : decode cX5_readShafts 17 = .ok (.iadd, 1) := by decide +kernel
theorem dX5_readShafts_18 : decode cX5_readShafts 18 = .ok (.aload_n 1, 1) := by decide +kernel
theorem dX5_readShafts_19 : decode cX5_readShafts 19 = .ok (.getfield 66, 3) := by decide +kernel
theorem dX5_readShafts_22 : decode cX5_readShafts 22 = .ok (.if_icmp .ge 44, 3) := by decide +kernel
theorem dX5_readShafts_25 : decode cX5_readShafts 25 = .ok (.aload_n 0, 1) := by decide +kernel
theorem dX5_readShafts_26 : decode cX5_readShafts 26 = .ok (.getfield 26, 3) := by decide +kernel
theorem dX5_readShafts_29 : decode cX5_readShafts 29 = .ok (.aload_n 1, 1) := by decide +kernel
theorem dX5_readShafts_30 : decode cX5_readShafts 30 = .ok (.iload_n 3, 1) := by decide +kernel
theorem dX5_readShafts_31 : decode cX5_readShafts 31 = .ok (.invokevirtual 52, 3) := by decide +kernel
theorem dX5_readShafts_34 : decode cX5_readShafts 34 = .ok (.aload_n 1, 1) := by decide +kernel
theorem dX5_readShafts_35 : decode cX5_readShafts 35 = .ok (.iload_n 3, 1) := by decide +kernel
theorem dX5_readShafts_36 : decode cX5_readShafts 36 = .ok (.iconst 1, 1) := by decide +kernel
theorem dX5_readShafts_37 : decode cX5_readShafts 37 = .ok (.iadd, 1) := by decide +kernel
theorem dX5_readShafts_38 : decode cX5_readShafts 38 = .ok (.invokevirtual 52, 3) := by decide +kernel
theorem dX5_readShafts_41 : decode cX5_readShafts 41 = .ok (.invokevirtual 55, 3) := by decide +kernel
theorem dX5_readShafts_44 : decode cX5_readShafts 44 = .ok (.aload_n 0, 1) := by decide +kernel
theorem dX5_readShafts_45 : decode cX5_readShafts 45 = .ok (.dup, 1) := by decide +kernel
theorem dX5_readShafts_46 : decode cX5_readShafts 46 = .ok (.getfield 33, 3) := by decide +kernel
theorem dX5_readShafts_49 : decode cX5_readShafts 49 = .ok (.iconst 1, 1) := by decide +kernel
theorem dX5_readShafts_50 : decode cX5_readShafts 50 = .ok (.aload_n 1, 1) := by decide +kernel
theorem dX5_readShafts_51 : decode cX5_readShafts 51 = .ok (.iload_n 3, 1) := by decide +kernel
theorem dX5_readShafts_52 : decode cX5_readShafts 52 = .ok (.invokevirtual 52, 3) := by decide +kernel
theorem dX5_readShafts_55 : decode cX5_readShafts 55 = .ok (.ishl, 1) := by decide +kernel
theorem dX5_readShafts_56 : decode cX5_readShafts 56 = .ok (.ior, 1) := by decide +kernel
theorem dX5_readShafts_57 : decode cX5_readShafts 57 = .ok (.putfield 33, 3) := by decide +kernel
theorem dX5_readShafts_60 : decode cX5_readShafts 60 = .ok (.iinc 3 2, 3) := by decide +kernel
theorem dX5_readShafts_63 : decode cX5_readShafts 63 = .ok (.goto (-48), 3) := by decide +kernel
theorem dX5_readShafts_66 : decode cX5_readShafts 66 = .ok (.return_, 1) := by decide +kernel
set_option maxRecDepth 20000 in
theorem ggX5_shaftHeight_X8_get : GoodIn wsX5_shaftHeight wsX8_get := goodIn_r _ [6, 7, 15] (by decide +kernel) (by decide +kernel)
set_option maxRecDepth 20000 in
theorem gX5_shaftHeight_X8_get : GoodIn wsX5_shaftHeight (wsV RX5 48 RX8 yX8_get wsX8_get) := goodIn_app (goodIn_of _ (by decide +kernel)) ggX5_shaftHeight_X8_get
theorem dX5_shaftHeight_0 : decode cX5_shaftHeight 0 = .ok (.aload_n 0, 1) := by decide +kernel
theorem dX5_shaftHeight_1 : decode cX5_shaftHeight 1 = .ok (.getfield 26, 3) := by decide +kernel
theorem dX5_shaftHeight_4 : decode cX5_shaftHeight 4 = .ok (.iload_n 1, 1) := by decide +kernel
theorem dX5_shaftHeight_5 : decode cX5_shaftHeight 5 = .ok (.invokevirtual 48, 3) := by decide +kernel
theorem dX5_shaftHeight_8 : decode cX5_shaftHeight 8 = .ok (.istore_n 3, 1) := by decide +kernel
theorem dX5_shaftHeight_9 : decode cX5_shaftHeight 9 = .ok (.bipush 12, 2) := by decide +kernel
theorem dX5_shaftHeight_11 : decode cX5_shaftHeight 11 = .ok (.iload_n 2, 1) := by decide +kernel
theorem dX5_shaftHeight_12 : decode cX5_shaftHeight 12 = .ok (.ifCond .eq 10, 3) := by decide +kernel
theorem dX5_shaftHeight_15 : decode cX5_shaftHeight 15 = .ok (.bipush 9, 2) := by decide +kernel
theorem dX5_shaftHeight_17 : decode cX5_shaftHeight 17 = .ok (.iload_n 3, 1) := by decide +kernel
theorem dX5_shaftHeight_18 : decode cX5_shaftHeight 18 = .ok (.isub, 1) := by decide +kernel
theorem dX5_shaftHeight_19 : decode cX5_shaftHeight 19 = .ok (.goto 4, 3) := by decide +kernel
theorem dX5_shaftHeight_22 : decode cX5_shaftHeight 22 = .ok (.iload_n 3, 1) := by decide +kernel
theorem dX5_shaftHeight_23 : decode cX5_shaftHeight 23 = .ok (.imul, 1) := by decide +kernel
theorem dX5_shaftHeight_24 : decode cX5_shaftHeight 24 = .ok (.ireturn, 1) := by decide +kernel
set_option maxRecDepth 20000 in
theorem ggX5_isAt_X8_get : GoodIn wsX5_isAt wsX8_get := goodIn_r _ [7, 8, 16] (by decide +kernel) (by decide +kernel)
set_option maxRecDepth 20000 in
theorem gX5_isAt_X8_get : GoodIn wsX5_isAt (wsV RX5 48 RX8 yX8_get wsX8_get) := goodIn_app (goodIn_of _ (by decide +kernel)) ggX5_isAt_X8_get
theorem dX5_isAt_0 : decode cX5_isAt 0 = .ok (.aload_n 0, 1) := by decide +kernel
theorem dX5_isAt_1 : decode cX5_isAt 1 = .ok (.getfield 14, 3) := by decide +kernel
theorem dX5_isAt_4 : decode cX5_isAt 4 = .ok (.iload_n 1, 1) := by decide +kernel
theorem dX5_isAt_5 : decode cX5_isAt 5 = .ok (.invokevirtual 48, 3) := by decide +kernel
theorem dX5_isAt_8 : decode cX5_isAt 8 = .ok (.iload_n 2, 1) := by decide +kernel
theorem dX5_isAt_9 : decode cX5_isAt 9 = .ok (.if_icmp .eq 15, 3) := by decide +kernel
theorem dX5_isAt_12 : decode cX5_isAt 12 = .ok (.aload_n 0, 1) := by decide +kernel
theorem dX5_isAt_13 : decode cX5_isAt 13 = .ok (.getfield 20, 3) := by decide +kernel
theorem dX5_isAt_16 : decode cX5_isAt 16 = .ok (.iload_n 1, 1) := by decide +kernel
theorem dX5_isAt_17 : decode cX5_isAt 17 = .ok (.invokevirtual 48, 3) := by decide +kernel
theorem dX5_isAt_20 : decode cX5_isAt 20 = .ok (.iload_n 2, 1) := by decide +kernel
theorem dX5_isAt_21 : decode cX5_isAt 21 = .ok (.if_icmp .ne 7, 3) := by decide +kernel
theorem dX5_isAt_24 : decode cX5_isAt 24 = .ok (.iconst 1, 1) := by decide +kernel
theorem dX5_isAt_25 : decode cX5_isAt 25 = .ok (.goto 4, 3) := by decide +kernel
theorem dX5_isAt_28 : decode cX5_isAt 28 = .ok (.iconst 0, 1) := by decide +kernel
theorem dX5_isAt_29 : decode cX5_isAt 29 = .ok (.ireturn, 1) := by decide +kernel
set_option maxRecDepth 20000 in
theorem ggX5_otherEnd_X8_get : GoodIn wsX5_otherEnd wsX8_get := goodIn_r _ [7, 8, 16] (by decide +kernel) (by decide +kernel)
set_option maxRecDepth 20000 in
theorem gX5_otherEnd_X8_get : GoodIn wsX5_otherEnd (wsV RX5 48 RX8 yX8_get wsX8_get) := goodIn_app (goodIn_of _ (by decide +kernel)) ggX5_otherEnd_X8_get
theorem dX5_otherEnd_0 : decode cX5_otherEnd 0 = .ok (.aload_n 0, 1) := by decide +kernel
theorem dX5_otherEnd_1 : decode cX5_otherEnd 1 = .ok (.getfield 14, 3) := by decide +kernel
theorem dX5_otherEnd_4 : decode cX5_otherEnd 4 = .ok (.iload_n 1, 1) := by decide +kernel
theorem dX5_otherEnd_5 : decode cX5_otherEnd 5 = .ok (.invokevirtual 48, 3) := by decide +kernel
theorem dX5_otherEnd_8 : decode cX5_otherEnd 8 = .ok (.iload_n 2, 1) := by decide +kernel
theorem dX5_otherEnd_9 : decode cX5_otherEnd 9 = .ok (.if_icmp .ne 14, 3) := by decide +kernel
theorem dX5_otherEnd_12 : decode cX5_otherEnd 12 = .ok (.aload_n 0, 1) := by decide +kernel
theorem dX5_otherEnd_13 : decode cX5_otherEnd 13 = .ok (.getfield 20, 3) := by decide +kernel
theorem dX5_otherEnd_16 : decode cX5_otherEnd 16 = .ok (.iload_n 1, 1) := by decide +kernel
theorem dX5_otherEnd_17 : decode cX5_otherEnd 17 = .ok (.invokevirtual 48, 3) := by decide +kernel
theorem dX5_otherEnd_20 : decode cX5_otherEnd 20 = .ok (.goto 11, 3) := by decide +kernel
theorem dX5_otherEnd_23 : decode cX5_otherEnd 23 = .ok (.aload_n 0, 1) := by decide +kernel
theorem dX5_otherEnd_24 : decode cX5_otherEnd 24 = .ok (.getfield 14, 3) := by decide +kernel
theorem dX5_otherEnd_27 : decode cX5_otherEnd 27 = .ok (.iload_n 1, 1) := by decide +kernel
theorem dX5_otherEnd_28 : decode cX5_otherEnd 28 = .ok (.invokevirtual 48, 3) := by decide +kernel
theorem dX5_otherEnd_31 : decode cX5_otherEnd 31 = .ok (.ireturn, 1) := by decide +kernel
set_option maxRecDepth 20000 in
theorem ggX5_galleriesAt_X5_isAt : GoodIn wsX5_galleriesAt wsX5_isAt := goodIn_r _ [6, 7, 8, 9, 10, 11, 12, 13, 14, 15, 16, 17, 18, 19, 20, 21, 22] (by decide +kernel) (by decide +kernel)
set_option maxRecDepth 20000 in
theorem gX5_galleriesAt_X5_isAt : GoodIn wsX5_galleriesAt (wsV RX5 68 RX5 yX5_isAt wsX5_isAt) := goodIn_app (goodIn_of _ (by decide +kernel)) ggX5_galleriesAt_X5_isAt
theorem dX5_galleriesAt_0 : decode cX5_galleriesAt 0 = .ok (.iconst 0, 1) := by decide +kernel
theorem dX5_galleriesAt_1 : decode cX5_galleriesAt 1 = .ok (.istore_n 3, 1) := by decide +kernel
theorem dX5_galleriesAt_2 : decode cX5_galleriesAt 2 = .ok (.iconst 0, 1) := by decide +kernel
theorem dX5_galleriesAt_3 : decode cX5_galleriesAt 3 = .ok (.istore 4, 2) := by decide +kernel
theorem dX5_galleriesAt_5 : decode cX5_galleriesAt 5 = .ok (.iload 4, 2) := by decide +kernel
theorem dX5_galleriesAt_7 : decode cX5_galleriesAt 7 = .ok (.aload_n 0, 1) := by decide +kernel
theorem dX5_galleriesAt_8 : decode cX5_galleriesAt 8 = .ok (.getfield 29, 3) := by decide +kernel
theorem dX5_galleriesAt_11 : decode cX5_galleriesAt 11 = .ok (.if_icmp .ge 28, 3) := by decide +kernel
theorem dX5_galleriesAt_14 : decode cX5_galleriesAt 14 = .ok (.aload_n 0, 1) := by decide +kernel
theorem dX5_galleriesAt_15 : decode cX5_galleriesAt 15 = .ok (.iload 4, 2) := by decide +kernel
theorem dX5_galleriesAt_17 : decode cX5_galleriesAt 17 = .ok (.iload_n 1, 1) := by decide +kernel
theorem dX5_galleriesAt_18 : decode cX5_galleriesAt 18 = .ok (.invokevirtual 68, 3) := by decide +kernel
theorem dX5_galleriesAt_21 : decode cX5_galleriesAt 21 = .ok (.ifCond .eq 12, 3) := by decide +kernel
theorem dX5_galleriesAt_24 : decode cX5_galleriesAt 24 = .ok (.iload_n 3, 1) := by decide +kernel
theorem dX5_galleriesAt_25 : decode cX5_galleriesAt 25 = .ok (.iload_n 2, 1) := by decide +kernel
theorem dX5_galleriesAt_26 : decode cX5_galleriesAt 26 = .ok (.iconst 1, 1) := by decide +kernel
theorem dX5_galleriesAt_27 : decode cX5_galleriesAt 27 = .ok (.iload 4, 2) := by decide +kernel
theorem dX5_galleriesAt_29 : decode cX5_galleriesAt 29 = .ok (.ishl, 1) := by decide +kernel
theorem dX5_galleriesAt_30 : decode cX5_galleriesAt 30 = .ok (.iand, 1) := by decide +kernel
theorem dX5_galleriesAt_31 : decode cX5_galleriesAt 31 = .ok (.ior, 1) := by decide +kernel
theorem dX5_galleriesAt_32 : decode cX5_galleriesAt 32 = .ok (.istore_n 3, 1) := by decide +kernel
theorem dX5_galleriesAt_33 : decode cX5_galleriesAt 33 = .ok (.iinc 4 1, 3) := by decide +kernel
theorem dX5_galleriesAt_36 : decode cX5_galleriesAt 36 = .ok (.goto (-31), 3) := by decide +kernel
theorem dX5_galleriesAt_39 : decode cX5_galleriesAt 39 = .ok (.iload_n 3, 1) := by decide +kernel
theorem dX5_galleriesAt_40 : decode cX5_galleriesAt 40 = .ok (.ireturn, 1) := by decide +kernel
theorem dX6_init_0 : decode cX6_init 0 = .ok (.aload_n 0, 1) := by decide +kernel
theorem dX6_init_1 : decode cX6_init 1 = .ok (.invokespecial 3, 3) := by decide +kernel
theorem dX6_init_4 : decode cX6_init 4 = .ok (.return_, 1) := by decide +kernel
theorem dX6_start_0 : decode cX6_start 0 = .ok (.aload_n 0, 1) := by decide +kernel
theorem dX6_start_1 : decode cX6_start 1 = .ok (.iconst 0, 1) := by decide +kernel
theorem dX6_start_2 : decode cX6_start 2 = .ok (.putfield 11, 3) := by decide +kernel
theorem dX6_start_5 : decode cX6_start 5 = .ok (.aload_n 0, 1) := by decide +kernel
theorem dX6_start_6 : decode cX6_start 6 = .ok (.iconst 0, 1) := by decide +kernel
theorem dX6_start_7 : decode cX6_start 7 = .ok (.putfield 15, 3) := by decide +kernel
theorem dX6_start_10 : decode cX6_start 10 = .ok (.aload_n 0, 1) := by decide +kernel
theorem dX6_start_11 : decode cX6_start 11 = .ok (.iconst 0, 1) := by decide +kernel
theorem dX6_start_12 : decode cX6_start 12 = .ok (.putfield 18, 3) := by decide +kernel
theorem dX6_start_15 : decode cX6_start 15 = .ok (.return_, 1) := by decide +kernel
set_option maxRecDepth 20000 in
theorem ggX6_takes_X10_isKnot : GoodIn wsX6_takes wsX10_isKnot := goodIn_r _ [6] (by decide +kernel) (by decide +kernel)
set_option maxRecDepth 20000 in
theorem gX6_takes_X10_isKnot_n24 : GoodIn wsX6_takes (wsX10_isKnot) := ggX6_takes_X10_isKnot
set_option maxRecDepth 20000 in
theorem ggX6_takes_X6_takesBreak : GoodIn wsX6_takes wsX6_takesBreak := goodIn_r _ [11, 1, 3, 19, 20, 21, 22] (by decide +kernel) (by decide +kernel)
set_option maxRecDepth 20000 in
theorem gX6_takes_X6_takesBreak : GoodIn wsX6_takes (wsV RX6 28 RX6 yX6_takesBreak wsX6_takesBreak) := goodIn_app (goodIn_of _ (by decide +kernel)) ggX6_takes_X6_takesBreak
set_option maxRecDepth 20000 in
theorem ggX6_takes_X6_takesShaft : GoodIn wsX6_takes wsX6_takesShaft := goodIn_r _ [15, 16, 1, 4, 5, 6, 17, 18, 19, 20, 21, 22] (by decide +kernel) (by decide +kernel)
set_option maxRecDepth 20000 in
theorem gX6_takes_X6_takesShaft : GoodIn wsX6_takes (wsV RX6 31 RX6 yX6_takesShaft wsX6_takesShaft) := goodIn_app (goodIn_of _ (by decide +kernel)) ggX6_takes_X6_takesShaft
theorem dX6_takes_0 : decode cX6_takes 0 = .ok (.aload_n 0, 1) := by decide +kernel
theorem dX6_takes_1 : decode cX6_takes 1 = .ok (.getfield 11, 3) := by decide +kernel
theorem dX6_takes_4 : decode cX6_takes 4 = .ok (.tableswitch 160 0 5 #[40, 58, 87, 120, 145, 151], 40) := by decide +kernel
theorem dX6_takes_44 : decode cX6_takes 44 = .ok (.aload_n 0, 1) := by decide +kernel
theorem dX6_takes_45 : decode cX6_takes 45 = .ok (.iload_n 1, 1) := by decide +kernel
theorem dX6_takes_46 : decode cX6_takes 46 = .ok (.putfield 21, 3) := by decide +kernel
theorem dX6_takes_49 : decode cX6_takes 49 = .ok (.aload_n 0, 1) := by decide +kernel
theorem dX6_takes_50 : decode cX6_takes 50 = .ok (.iconst 1, 1) := by decide +kernel
theorem dX6_takes_51 : decode cX6_takes 51 = .ok (.putfield 11, 3) := by decide +kernel
theorem dX6_takes_54 : decode cX6_takes 54 = .ok (.iload_n 1, 1) := by decide +kernel
theorem dX6_takes_55 : decode cX6_takes 55 = .ok (.bipush 48, 2) := by decide +kernel
theorem dX6_takes_57 : decode cX6_takes 57 = .ok (.isub, 1) := by decide +kernel
theorem dX6_takes_58 : decode cX6_takes 58 = .ok (.invokestatic 24, 3) := by decide +kernel
theorem dX6_takes_61 : decode cX6_takes 61 = .ok (.ireturn, 1) := by decide +kernel
theorem dX6_takes_62 : decode cX6_takes 62 = .ok (.aload_n 0, 1) := by decide +kernel
theorem dX6_takes_63 : decode cX6_takes 63 = .ok (.iconst 2, 1) := by decide +kernel
theorem dX6_takes_64 : decode cX6_takes 64 = .ok (.putfield 11, 3) := by decide +kernel
theorem dX6_takes_67 : decode cX6_takes 67 = .ok (.iload_n 1, 1) := by decide +kernel
theorem dX6_takes_68 : decode cX6_takes 68 = .ok (.bipush 48, 2) := by decide +kernel
theorem dX6_takes_70 : decode cX6_takes 70 = .ok (.isub, 1) := by decide +kernel
theorem dX6_takes_71 : decode cX6_takes 71 = .ok (.invokestatic 24, 3) := by decide +kernel
theorem dX6_takes_74 : decode cX6_takes 74 = .ok (.ifCond .eq 15, 3) := by decide +kernel
theorem dX6_takes_77 : decode cX6_takes 77 = .ok (.iload_n 1, 1) := by decide +kernel
theorem dX6_takes_78 : decode cX6_takes 78 = .ok (.aload_n 0, 1) := by decide +kernel
theorem dX6_takes_79 : decode cX6_takes 79 = .ok (.getfield 21, 3) := by decide +kernel
theorem dX6_takes_82 : decode cX6_takes 82 = .ok (.if_icmp .eq 7, 3) := by decide +kernel
theorem dX6_takes_85 : decode cX6_takes 85 = .ok (.iconst 1, 1) := by decide +kernel
theorem dX6_takes_86 : decode cX6_takes 86 = .ok (.goto 4, 3) := by decide +kernel
theorem dX6_takes_89 : decode cX6_takes 89 = .ok (.iconst 0, 1) := by decide +kernel
theorem dX6_takes_90 : decode cX6_takes 90 = .ok (.ireturn, 1) := by decide +kernel
theorem dX6_takes_91 : decode cX6_takes 91 = .ok (.aload_n 0, 1) := by decide +kernel
theorem dX6_takes_92 : decode cX6_takes 92 = .ok (.dup, 1) := by decide +kernel
theorem dX6_takes_93 : decode cX6_takes 93 = .ok (.getfield 15, 3) := by decide +kernel
theorem dX6_takes_96 : decode cX6_takes 96 = .ok (.iconst 1, 1) := by decide +kernel
theorem dX6_takes_97 : decode cX6_takes 97 = .ok (.iadd, 1) := by decide +kernel
theorem dX6_takes_98 : decode cX6_takes 98 = .ok (.putfield 15, 3) := by decide +kernel
theorem dX6_takes_101 : decode cX6_takes 101 = .ok (.aload_n 0, 1) := by decide +kernel
theorem dX6_takes_102 : decode cX6_takes 102 = .ok (.iconst 3, 1) := by decide +kernel
theorem dX6_takes_103 : decode cX6_takes 103 = .ok (.putfield 11, 3) := by decide +kernel
theorem dX6_takes_106 : decode cX6_takes 106 = .ok (.iload_n 1, 1) := by decide +kernel
theorem dX6_takes_107 : decode cX6_takes 107 = .ok (.bipush 49, 2) := by decide +kernel
theorem dX6_takes_109 : decode cX6_takes 109 = .ok (.if_icmp .lt 13, 3) := by decide +kernel
theorem dX6_takes_112 : decode cX6_takes 112 = .ok (.iload_n 1, 1) := by decide +kernel
theorem dX6_takes_113 : decode cX6_takes 113 = .ok (.bipush 57, 2) := by decide +kernel
theorem dX6_takes_115 : decode cX6_takes 115 = .ok (.if_icmp .gt 7, 3) := by decide +kernel
theorem dX6_takes_118 : decode cX6_takes 118 = .ok (.iconst 1, 1) := by decide +kernel
theorem dX6_takes_119 : decode cX6_takes 119 = .ok (.goto 4, 3) := by decide +kernel
theorem dX6_takes_122 : decode cX6_takes 122 = .ok (.iconst 0, 1) := by decide +kernel
theorem dX6_takes_123 : decode cX6_takes 123 = .ok (.ireturn, 1) := by decide +kernel
theorem dX6_takes_124 : decode cX6_takes 124 = .ok (.aload_n 0, 1) := by decide +kernel
theorem dX6_takes_125 : decode cX6_takes 125 = .ok (.iconst 4, 1) := by decide +kernel
theorem dX6_takes_126 : decode cX6_takes 126 = .ok (.putfield 11, 3) := by decide +kernel
theorem dX6_takes_129 : decode cX6_takes 129 = .ok (.iload_n 1, 1) := by decide +kernel
theorem dX6_takes_130 : decode cX6_takes 130 = .ok (.bipush 100, 2) := by decide +kernel
theorem dX6_takes_132 : decode cX6_takes 132 = .ok (.if_icmp .eq 11, 3) := by decide +kernel
theorem dX6_takes_135 : decode cX6_takes 135 = .ok (.aload_n 0, 1) := by decide +kernel
theorem dX6_takes_136 : decode cX6_takes 136 = .ok (.iload_n 1, 1) := by decide +kernel
theorem dX6_takes_137 : decode cX6_takes 137 = .ok (.invokevirtual 28, 3) := by decide +kernel
theorem dX6_takes_140 : decode cX6_takes 140 = .ok (.ifCond .eq 7, 3) := by decide +kernel
theorem dX6_takes_143 : decode cX6_takes 143 = .ok (.iconst 1, 1) := by decide +kernel
theorem dX6_takes_144 : decode cX6_takes 144 = .ok (.goto 4, 3) := by decide +kernel
theorem dX6_takes_147 : decode cX6_takes 147 = .ok (.iconst 0, 1) := by decide +kernel
theorem dX6_takes_148 : decode cX6_takes 148 = .ok (.ireturn, 1) := by decide +kernel
theorem dX6_takes_149 : decode cX6_takes 149 = .ok (.aload_n 0, 1) := by decide +kernel
theorem dX6_takes_150 : decode cX6_takes 150 = .ok (.iload_n 1, 1) := by decide +kernel
theorem dX6_takes_151 : decode cX6_takes 151 = .ok (.invokevirtual 28, 3) := by decide +kernel
theorem dX6_takes_154 : decode cX6_takes 154 = .ok (.ireturn, 1) := by decide +kernel
theorem dX6_takes_155 : decode cX6_takes 155 = .ok (.aload_n 0, 1) := by decide +kernel
theorem dX6_takes_156 : decode cX6_takes 156 = .ok (.iload_n 1, 1) := by decide +kernel
theorem dX6_takes_157 : decode cX6_takes 157 = .ok (.bipush 48, 2) := by decide +kernel
theorem dX6_takes_159 : decode cX6_takes 159 = .ok (.isub, 1) := by decide +kernel
theorem dX6_takes_160 : decode cX6_takes 160 = .ok (.invokevirtual 31, 3) := by decide +kernel
theorem dX6_takes_163 : decode cX6_takes 163 = .ok (.ireturn, 1) := by decide +kernel
theorem dX6_takes_164 : decode cX6_takes 164 = .ok (.aload_n 0, 1) := by decide +kernel
theorem dX6_takes_165 : decode cX6_takes 165 = .ok (.iconst 5, 1) := by decide +kernel
theorem dX6_takes_166 : decode cX6_takes 166 = .ok (.putfield 11, 3) := by decide +kernel
theorem dX6_takes_169 : decode cX6_takes 169 = .ok (.iload_n 1, 1) := by decide +kernel
theorem dX6_takes_170 : decode cX6_takes 170 = .ok (.bipush 48, 2) := by decide +kernel
theorem dX6_takes_172 : decode cX6_takes 172 = .ok (.if_icmp .lt 13, 3) := by decide +kernel
theorem dX6_takes_175 : decode cX6_takes 175 = .ok (.iload_n 1, 1) := by decide +kernel
theorem dX6_takes_176 : decode cX6_takes 176 = .ok (.bipush 57, 2) := by decide +kernel
theorem dX6_takes_178 : decode cX6_takes 178 = .ok (.if_icmp .gt 7, 3) := by decide +kernel
theorem dX6_takes_181 : decode cX6_takes 181 = .ok (.iconst 1, 1) := by decide +kernel
theorem dX6_takes_182 : decode cX6_takes 182 = .ok (.goto 4, 3) := by decide +kernel
theorem dX6_takes_185 : decode cX6_takes 185 = .ok (.iconst 0, 1) := by decide +kernel
theorem dX6_takes_186 : decode cX6_takes 186 = .ok (.ireturn, 1) := by decide +kernel
set_option maxRecDepth 20000 in
theorem ggX6_mayEnd_J6_bitCount_0f7a4 : GoodIn wsX6_mayEnd wsJ6_bitCount_0f7a4 := goodIn_r _ [6, 7, 8, 9] (by decide +kernel) (by decide +kernel)
set_option maxRecDepth 20000 in
theorem gX6_mayEnd_J6_bitCount_0f7a4 : GoodIn wsX6_mayEnd (va_wsS RX6 34 yJ6_bitCount_0f7a4 wsJ6_bitCount_0f7a4) := goodIn_app (goodIn_of _ (by decide +kernel)) ggX6_mayEnd_J6_bitCount_0f7a4
theorem dX6_mayEnd_0 : decode cX6_mayEnd 0 = .ok (.aload_n 0, 1) := by decide +kernel
theorem dX6_mayEnd_1 : decode cX6_mayEnd 1 = .ok (.getfield 11, 3) := by decide +kernel
theorem dX6_mayEnd_4 : decode cX6_mayEnd 4 = .ok (.iconst 5, 1) := by decide +kernel
theorem dX6_mayEnd_5 : decode cX6_mayEnd 5 = .ok (.if_icmp .ne 18, 3) := by decide +kernel
theorem dX6_mayEnd_8 : decode cX6_mayEnd 8 = .ok (.aload_n 0, 1) := by decide +kernel
theorem dX6_mayEnd_9 : decode cX6_mayEnd 9 = .ok (.getfield 18, 3) := by decide +kernel
theorem dX6_mayEnd_12 : decode cX6_mayEnd 12 = .ok (.invokestatic 34, 3) := by decide +kernel
theorem dX6_mayEnd_15 : decode cX6_mayEnd 15 = .ok (.iconst 2, 1) := by decide +kernel
theorem dX6_mayEnd_16 : decode cX6_mayEnd 16 = .ok (.if_icmp .lt 7, 3) := by decide +kernel
theorem dX6_mayEnd_19 : decode cX6_mayEnd 19 = .ok (.iconst 1, 1) := by decide +kernel
theorem dX6_mayEnd_20 : decode cX6_mayEnd 20 = .ok (.goto 4, 3) := by decide +kernel
theorem dX6_mayEnd_23 : decode cX6_mayEnd 23 = .ok (.iconst 0, 1) := by decide +kernel
theorem dX6_mayEnd_24 : decode cX6_mayEnd 24 = .ok (.ireturn, 1) := by decide +kernel
theorem dX6_takesBreak_0 : decode cX6_takesBreak 0 = .ok (.aload_n 0, 1) := by decide +kernel
theorem dX6_takesBreak_1 : decode cX6_takesBreak 1 = .ok (.iload_n 1, 1) := by decide +kernel
theorem dX6_takesBreak_2 : decode cX6_takesBreak 2 = .ok (.bipush 59, 2) := by decide +kernel
theorem dX6_takesBreak_4 : decode cX6_takesBreak 4 = .ok (.if_icmp .ne 7, 3) := by decide +kernel
theorem dX6_takesBreak_7 : decode cX6_takesBreak 7 = .ok (.iconst 5, 1) := by decide +kernel
theorem dX6_takesBreak_8 : decode cX6_takesBreak 8 = .ok (.goto 4, 3) := by decide +kernel
theorem dX6_takesBreak_11 : decode cX6_takesBreak 11 = .ok (.iconst 0, 1) := by decide +kernel
theorem dX6_takesBreak_12 : decode cX6_takesBreak 12 = .ok (.putfield 11, 3) := by decide +kernel
theorem dX6_takesBreak_15 : decode cX6_takesBreak 15 = .ok (.iload_n 1, 1) := by decide +kernel
theorem dX6_takesBreak_16 : decode cX6_takesBreak 16 = .ok (.bipush 59, 2) := by decide +kernel
theorem dX6_takesBreak_18 : decode cX6_takesBreak 18 = .ok (.if_icmp .eq 18, 3) := by decide +kernel
theorem dX6_takesBreak_21 : decode cX6_takesBreak 21 = .ok (.iload_n 1, 1) := by decide +kernel
theorem dX6_takesBreak_22 : decode cX6_takesBreak 22 = .ok (.bipush 44, 2) := by decide +kernel
theorem dX6_takesBreak_24 : decode cX6_takesBreak 24 = .ok (.if_icmp .ne 16, 3) := by decide +kernel
theorem dX6_takesBreak_27 : decode cX6_takesBreak 27 = .ok (.aload_n 0, 1) := by decide +kernel
theorem dX6_takesBreak_28 : decode cX6_takesBreak 28 = .ok (.getfield 15, 3) := by decide +kernel
theorem dX6_takesBreak_31 : decode cX6_takesBreak 31 = .ok (.bipush 10, 2) := by decide +kernel
theorem dX6_takesBreak_33 : decode cX6_takesBreak 33 = .ok (.if_icmp .ge 7, 3) := by decide +kernel
theorem dX6_takesBreak_36 : decode cX6_takesBreak 36 = .ok (.iconst 1, 1) := by decide +kernel
theorem dX6_takesBreak_37 : decode cX6_takesBreak 37 = .ok (.goto 4, 3) := by decide +kernel
theorem dX6_takesBreak_40 : decode cX6_takesBreak 40 = .ok (.iconst 0, 1) := by decide +kernel
theorem dX6_takesBreak_41 : decode cX6_takesBreak 41 = .ok (.ireturn, 1) := by decide +kernel
set_option maxRecDepth 20000 in
theorem ggX6_takesShaft_X10_isKnot : GoodIn wsX6_takesShaft wsX10_isKnot := goodIn_r _ [5] (by decide +kernel) (by decide +kernel)
set_option maxRecDepth 20000 in
theorem gX6_takesShaft_X10_isKnot_n24 : GoodIn wsX6_takesShaft (wsX10_isKnot) := ggX6_takesShaft_X10_isKnot
set_option maxRecDepth 20000 in
theorem ggX6_takesShaft_X10_bit : GoodIn wsX6_takesShaft wsX10_bit := goodIn_r _ [7] (by decide +kernel) (by decide +kernel)
set_option maxRecDepth 20000 in
theorem gX6_takesShaft_X10_bit_n40 : GoodIn wsX6_takesShaft (wsX10_bit) := ggX6_takesShaft_X10_bit
theorem dX6_takesShaft_0 : decode cX6_takesShaft 0 = .ok (.iload_n 1, 1) := by decide +kernel
theorem dX6_takesShaft_1 : decode cX6_takesShaft 1 = .ok (.invokestatic 24, 3) := by decide +kernel
theorem dX6_takesShaft_4 : decode cX6_takesShaft 4 = .ok (.ifCond .eq 15, 3) := by decide +kernel
theorem dX6_takesShaft_7 : decode cX6_takesShaft 7 = .ok (.aload_n 0, 1) := by decide +kernel
theorem dX6_takesShaft_8 : decode cX6_takesShaft 8 = .ok (.getfield 18, 3) := by decide +kernel
theorem dX6_takesShaft_11 : decode cX6_takesShaft 11 = .ok (.iload_n 1, 1) := by decide +kernel
theorem dX6_takesShaft_12 : decode cX6_takesShaft 12 = .ok (.invokestatic 40, 3) := by decide +kernel
theorem dX6_takesShaft_15 : decode cX6_takesShaft 15 = .ok (.iconst 1, 1) := by decide +kernel
theorem dX6_takesShaft_16 : decode cX6_takesShaft 16 = .ok (.if_icmp .ne 5, 3) := by decide +kernel
theorem dX6_takesShaft_19 : decode cX6_takesShaft 19 = .ok (.iconst 0, 1) := by decide +kernel
theorem dX6_takesShaft_20 : decode cX6_takesShaft 20 = .ok (.ireturn, 1) := by decide +kernel
theorem dX6_takesShaft_21 : decode cX6_takesShaft 21 = .ok (.aload_n 0, 1) := by decide +kernel
theorem dX6_takesShaft_22 : decode cX6_takesShaft 22 = .ok (.dup, 1) := by decide +kernel
theorem dX6_takesShaft_23 : decode cX6_takesShaft 23 = .ok (.getfield 18, 3) := by decide +kernel
theorem dX6_takesShaft_26 : decode cX6_takesShaft 26 = .ok (.iconst 1, 1) := by decide +kernel
theorem dX6_takesShaft_27 : decode cX6_takesShaft 27 = .ok (.iload_n 1, 1) := by decide +kernel
theorem dX6_takesShaft_28 : decode cX6_takesShaft 28 = .ok (.ishl, 1) := by decide +kernel
theorem dX6_takesShaft_29 : decode cX6_takesShaft 29 = .ok (.ior, 1) := by decide +kernel
theorem dX6_takesShaft_30 : decode cX6_takesShaft 30 = .ok (.putfield 18, 3) := by decide +kernel
theorem dX6_takesShaft_33 : decode cX6_takesShaft 33 = .ok (.aload_n 0, 1) := by decide +kernel
theorem dX6_takesShaft_34 : decode cX6_takesShaft 34 = .ok (.bipush 6, 2) := by decide +kernel
theorem dX6_takesShaft_36 : decode cX6_takesShaft 36 = .ok (.putfield 11, 3) := by decide +kernel
theorem dX6_takesShaft_39 : decode cX6_takesShaft 39 = .ok (.iconst 1, 1) := by decide +kernel
theorem dX6_takesShaft_40 : decode cX6_takesShaft 40 = .ok (.ireturn, 1) := by decide +kernel
set_option maxRecDepth 20000 in
theorem ggX7_init_X8_init : GoodIn wsX7_init wsX8_init := goodIn_r _ [15, 16, 2, 3, 17, 18, 25] (by decide +kernel) (by decide +kernel)
set_option maxRecDepth 20000 in
theorem gX7_init_X8_init : GoodIn wsX7_init (wsX8_init) := ggX7_init_X8_init
set_option maxRecDepth 20000 in
theorem ggX7_init_X9_init : GoodIn wsX7_init wsX9_init := goodIn_r _ [20, 21, 2, 3, 22, 5, 6, 23, 24, 14, 15, 16, 17, 18, 25, 31] (by decide +kernel) (by decide +kernel)
set_option maxRecDepth 20000 in
theorem gX7_init_X9_init_n25 : GoodIn wsX7_init (wsX9_init) := ggX7_init_X9_init
theorem dX7_init_0 : decode cX7_init 0 = .ok (.aload_n 0, 1) := by decide +kernel
theorem dX7_init_1 : decode cX7_init 1 = .ok (.invokespecial 3, 3) := by decide +kernel
theorem dX7_init_4 : decode cX7_init 4 = .ok (.aload_n 0, 1) := by decide +kernel
theorem dX7_init_5 : decode cX7_init 5 = .ok (.new 9, 3) := by decide +kernel
theorem dX7_init_8 : decode cX7_init 8 = .ok (.dup, 1) := by decide +kernel
theorem dX7_init_9 : decode cX7_init 9 = .ok (.iconst 5, 1) := by decide +kernel
theorem dX7_init_10 : decode cX7_init 10 = .ok (.invokespecial 11, 3) := by decide +kernel
theorem dX7_init_13 : decode cX7_init 13 = .ok (.putfield 14, 3) := by decide +kernel
theorem dX7_init_16 : decode cX7_init 16 = .ok (.aload_n 0, 1) := by decide +kernel
theorem dX7_init_17 : decode cX7_init 17 = .ok (.new 9, 3) := by decide +kernel
theorem dX7_init_20 : decode cX7_init 20 = .ok (.dup, 1) := by decide +kernel
theorem dX7_init_21 : decode cX7_init 21 = .ok (.iconst 5, 1) := by decide +kernel
theorem dX7_init_22 : decode cX7_init 22 = .ok (.invokespecial 11, 3) := by decide +kernel
theorem dX7_init_25 : decode cX7_init 25 = .ok (.putfield 20, 3) := by decide +kernel
theorem dX7_init_28 : decode cX7_init 28 = .ok (.aload_n 0, 1) := by decide +kernel
theorem dX7_init_29 : decode cX7_init 29 = .ok (.new 23, 3) := by decide +kernel
theorem dX7_init_32 : decode cX7_init 32 = .ok (.dup, 1) := by decide +kernel
theorem dX7_init_33 : decode cX7_init 33 = .ok (.invokespecial 25, 3) := by decide +kernel
theorem dX7_init_36 : decode cX7_init 36 = .ok (.putfield 26, 3) := by decide +kernel
theorem dX7_init_39 : decode cX7_init 39 = .ok (.return_, 1) := by decide +kernel
theorem dX8_init_0 : decode cX8_init 0 = .ok (.aload_n 0, 1) := by decide +kernel
theorem dX8_init_1 : decode cX8_init 1 = .ok (.invokespecial 1, 3) := by decide +kernel
theorem dX8_init_4 : decode cX8_init 4 = .ok (.aload_n 0, 1) := by decide +kernel
theorem dX8_init_5 : decode cX8_init 5 = .ok (.iload_n 1, 1) := by decide +kernel
theorem dX8_init_6 : decode cX8_init 6 = .ok (.ifCond .le 7, 3) := by decide +kernel
theorem dX8_init_9 : decode cX8_init 9 = .ok (.iload_n 1, 1) := by decide +kernel
theorem dX8_init_10 : decode cX8_init 10 = .ok (.goto 4, 3) := by decide +kernel
theorem dX8_init_13 : decode cX8_init 13 = .ok (.iconst 0, 1) := by decide +kernel
theorem dX8_init_14 : decode cX8_init 14 = .ok (.newarray .int, 2) := by decide +kernel
theorem dX8_init_16 : decode cX8_init 16 = .ok (.putfield 7, 3) := by decide +kernel
theorem dX8_init_19 : decode cX8_init 19 = .ok (.return_, 1) := by decide +kernel
theorem dX8_get_0 : decode cX8_get 0 = .ok (.iload_n 1, 1) := by decide +kernel
theorem dX8_get_1 : decode cX8_get 1 = .ok (.ifCond .lt 21, 3) := by decide +kernel
theorem dX8_get_4 : decode cX8_get 4 = .ok (.iload_n 1, 1) := by decide +kernel
theorem dX8_get_5 : decode cX8_get 5 = .ok (.aload_n 0, 1) := by decide +kernel
theorem dX8_get_6 : decode cX8_get 6 = .ok (.getfield 7, 3) := by decide +kernel
theorem dX8_get_9 : decode cX8_get 9 = .ok (.arraylength, 1) := by decide +kernel
theorem dX8_get_10 : decode cX8_get 10 = .ok (.if_icmp .ge 12, 3) := by decide +kernel
theorem dX8_get_13 : decode cX8_get 13 = .ok (.aload_n 0, 1) := by decide +kernel
theorem dX8_get_14 : decode cX8_get 14 = .ok (.getfield 7, 3) := by decide +kernel
theorem dX8_get_17 : decode cX8_get 17 = .ok (.iload_n 1, 1) := by decide +kernel
theorem dX8_get_18 : decode cX8_get 18 = .ok (.iaload, 1) := by decide +kernel
theorem dX8_get_19 : decode cX8_get 19 = .ok (.goto 4, 3) := by decide +kernel
theorem dX8_get_22 : decode cX8_get 22 = .ok (.iconst 0, 1) := by decide +kernel
theorem dX8_get_23 : decode cX8_get 23 = .ok (.ireturn, 1) := by decide +kernel
theorem dX8_set_0 : decode cX8_set 0 = .ok (.iload_n 1, 1) := by decide +kernel
theorem dX8_set_1 : decode cX8_set 1 = .ok (.ifCond .lt 19, 3) := by decide +kernel
theorem dX8_set_4 : decode cX8_set 4 = .ok (.iload_n 1, 1) := by decide +kernel
theorem dX8_set_5 : decode cX8_set 5 = .ok (.aload_n 0, 1) := by decide +kernel
theorem dX8_set_6 : decode cX8_set 6 = .ok (.getfield 7, 3) := by decide +kernel
theorem dX8_set_9 : decode cX8_set 9 = .ok (.arraylength, 1) := by decide +kernel
theorem dX8_set_10 : decode cX8_set 10 = .ok (.if_icmp .ge 10, 3) := by decide +kernel
theorem dX8_set_13 : decode cX8_set 13 = .ok (.aload_n 0, 1) := by decide +kernel
theorem dX8_set_14 : decode cX8_set 14 = .ok (.getfield 7, 3) := by decide +kernel
theorem dX8_set_17 : decode cX8_set 17 = .ok (.iload_n 1, 1) := by decide +kernel
theorem dX8_set_18 : decode cX8_set 18 = .ok (.iload_n 2, 1) := by decide +kernel
theorem dX8_set_19 : decode cX8_set 19 = .ok (.iastore, 1) := by decide +kernel
theorem dX8_set_20 : decode cX8_set 20 = .ok (.return_, 1) := by decide +kernel
theorem dX8_fill_0 : decode cX8_fill 0 = .ok (.iconst 0, 1) := by decide +kernel
theorem dX8_fill_1 : decode cX8_fill 1 = .ok (.istore_n 2, 1) := by decide +kernel
theorem dX8_fill_2 : decode cX8_fill 2 = .ok (.iload_n 2, 1) := by decide +kernel
theorem dX8_fill_3 : decode cX8_fill 3 = .ok (.aload_n 0, 1) := by decide +kernel
theorem dX8_fill_4 : decode cX8_fill 4 = .ok (.getfield 7, 3) := by decide +kernel
theorem dX8_fill_7 : decode cX8_fill 7 = .ok (.arraylength, 1) := by decide +kernel
theorem dX8_fill_8 : decode cX8_fill 8 = .ok (.if_icmp .ge 16, 3) := by decide +kernel
theorem dX8_fill_11 : decode cX8_fill 11 = .ok (.aload_n 0, 1) := by decide +kernel
theorem dX8_fill_12 : decode cX8_fill 12 = .ok (.getfield 7, 3) := by decide +kernel
theorem dX8_fill_15 : decode cX8_fill 15 = .ok (.iload_n 2, 1) := by decide +kernel
theorem dX8_fill_16 : decode cX8_fill 16 = .ok (.iload_n 1, 1) := by decide +kernel
theorem dX8_fill_17 : decode cX8_fill 17 = .ok (.iastore, 1) := by decide +kernel
theorem dX8_fill_18 : decode cX8_fill 18 = .ok (.iinc 2 1, 3) := by decide +kernel
theorem dX8_fill_21 : decode cX8_fill 21 = .ok (.goto (-19), 3) := by decide +kernel
theorem dX8_fill_24 : decode cX8_fill 24 = .ok (.return_, 1) := by decide +kernel
set_option maxRecDepth 20000 in
theorem ggX8_copyFrom_X8_get : GoodIn wsX8_copyFrom wsX8_get := goodIn_r _ [6, 1, 7] (by decide +kernel) (by decide +kernel)
set_option maxRecDepth 20000 in
theorem gX8_copyFrom_X8_get : GoodIn wsX8_copyFrom (wsV RX8 13 RX8 yX8_get wsX8_get) := goodIn_app (goodIn_of _ (by decide +kernel)) ggX8_copyFrom_X8_get
theorem dX8_copyFrom_0 : decode cX8_copyFrom 0 = .ok (.iconst 0, 1) := by decide +kernel
theorem dX8_copyFrom_1 : decode cX8_copyFrom 1 = .ok (.istore_n 2, 1) := by decide +kernel
theorem dX8_copyFrom_2 : decode cX8_copyFrom 2 = .ok (.iload_n 2, 1) := by decide +kernel
theorem dX8_copyFrom_3 : decode cX8_copyFrom 3 = .ok (.aload_n 0, 1) := by decide +kernel
theorem dX8_copyFrom_4 : decode cX8_copyFrom 4 = .ok (.getfield 7, 3) := by decide +kernel
theorem dX8_copyFrom_7 : decode cX8_copyFrom 7 = .ok (.arraylength, 1) := by decide +kernel
theorem dX8_copyFrom_8 : decode cX8_copyFrom 8 = .ok (.if_icmp .ge 20, 3) := by decide +kernel
theorem dX8_copyFrom_11 : decode cX8_copyFrom 11 = .ok (.aload_n 0, 1) := by decide +kernel
theorem dX8_copyFrom_12 : decode cX8_copyFrom 12 = .ok (.getfield 7, 3) := by decide +kernel
theorem dX8_copyFrom_15 : decode cX8_copyFrom 15 = .ok (.iload_n 2, 1) := by decide +kernel
theorem dX8_copyFrom_16 : decode cX8_copyFrom 16 = .ok (.aload_n 1, 1) := by decide +kernel
theorem dX8_copyFrom_17 : decode cX8_copyFrom 17 = .ok (.iload_n 2, 1) := by decide +kernel
theorem dX8_copyFrom_18 : decode cX8_copyFrom 18 = .ok (.invokevirtual 13, 3) := by decide +kernel
theorem dX8_copyFrom_21 : decode cX8_copyFrom 21 = .ok (.iastore, 1) := by decide +kernel
theorem dX8_copyFrom_22 : decode cX8_copyFrom 22 = .ok (.iinc 2 1, 3) := by decide +kernel
theorem dX8_copyFrom_25 : decode cX8_copyFrom 25 = .ok (.goto (-23), 3) := by decide +kernel
theorem dX8_copyFrom_28 : decode cX8_copyFrom 28 = .ok (.return_, 1) := by decide +kernel
theorem dX8_sum_0 : decode cX8_sum 0 = .ok (.iconst 0, 1) := by decide +kernel
theorem dX8_sum_1 : decode cX8_sum 1 = .ok (.istore_n 1, 1) := by decide +kernel
theorem dX8_sum_2 : decode cX8_sum 2 = .ok (.iconst 0, 1) := by decide +kernel
theorem dX8_sum_3 : decode cX8_sum 3 = .ok (.istore_n 2, 1) := by decide +kernel
theorem dX8_sum_4 : decode cX8_sum 4 = .ok (.iload_n 2, 1) := by decide +kernel
theorem dX8_sum_5 : decode cX8_sum 5 = .ok (.aload_n 0, 1) := by decide +kernel
theorem dX8_sum_6 : decode cX8_sum 6 = .ok (.getfield 7, 3) := by decide +kernel
theorem dX8_sum_9 : decode cX8_sum 9 = .ok (.arraylength, 1) := by decide +kernel
theorem dX8_sum_10 : decode cX8_sum 10 = .ok (.if_icmp .ge 18, 3) := by decide +kernel
theorem dX8_sum_13 : decode cX8_sum 13 = .ok (.iload_n 1, 1) := by decide +kernel
theorem dX8_sum_14 : decode cX8_sum 14 = .ok (.aload_n 0, 1) := by decide +kernel
theorem dX8_sum_15 : decode cX8_sum 15 = .ok (.getfield 7, 3) := by decide +kernel
theorem dX8_sum_18 : decode cX8_sum 18 = .ok (.iload_n 2, 1) := by decide +kernel
theorem dX8_sum_19 : decode cX8_sum 19 = .ok (.iaload, 1) := by decide +kernel
theorem dX8_sum_20 : decode cX8_sum 20 = .ok (.iadd, 1) := by decide +kernel
theorem dX8_sum_21 : decode cX8_sum 21 = .ok (.istore_n 1, 1) := by decide +kernel
theorem dX8_sum_22 : decode cX8_sum 22 = .ok (.iinc 2 1, 3) := by decide +kernel
theorem dX8_sum_25 : decode cX8_sum 25 = .ok (.goto (-21), 3) := by decide +kernel
theorem dX8_sum_28 : decode cX8_sum 28 = .ok (.iload_n 1, 1) := by decide +kernel
theorem dX8_sum_29 : decode cX8_sum 29 = .ok (.ireturn, 1) := by decide +kernel
set_option maxRecDepth 20000 in
theorem ggX9_init_X8_init : GoodIn wsX9_init wsX8_init := goodIn_r _ [10, 11, 2, 3, 12, 13, 14] (by decide +kernel) (by decide +kernel)
set_option maxRecDepth 20000 in
theorem gX9_init_X8_init : GoodIn wsX9_init (wsX8_init) := ggX9_init_X8_init
theorem dX9_init_0 : decode cX9_init 0 = .ok (.aload_n 0, 1) := by decide +kernel
theorem dX9_init_1 : decode cX9_init 1 = .ok (.invokespecial 3, 3) := by decide +kernel
theorem dX9_init_4 : decode cX9_init 4 = .ok (.aload_n 0, 1) := by decide +kernel
theorem dX9_init_5 : decode cX9_init 5 = .ok (.new 9, 3) := by decide +kernel
theorem dX9_init_8 : decode cX9_init 8 = .ok (.dup, 1) := by decide +kernel
theorem dX9_init_9 : decode cX9_init 9 = .ok (.bipush 49, 2) := by decide +kernel
theorem dX9_init_11 : decode cX9_init 11 = .ok (.invokespecial 11, 3) := by decide +kernel
theorem dX9_init_14 : decode cX9_init 14 = .ok (.putfield 14, 3) := by decide +kernel
theorem dX9_init_17 : decode cX9_init 17 = .ok (.return_, 1) := by decide +kernel
set_option maxRecDepth 20000 in
theorem ggX9_clear_X8_fill : GoodIn wsX9_clear wsX8_fill := goodIn_r _ [6, 7, 13] (by decide +kernel) (by decide +kernel)
set_option maxRecDepth 20000 in
theorem gX9_clear_X8_fill : GoodIn wsX9_clear (wsV RX9 20 RX8 yX8_fill wsX8_fill) := goodIn_app (goodIn_of _ (by decide +kernel)) ggX9_clear_X8_fill
set_option maxRecDepth 20000 in
theorem ggX9_clear_X8_set : GoodIn wsX9_clear wsX8_set := goodIn_r _ [11, 7, 13] (by decide +kernel) (by decide +kernel)
set_option maxRecDepth 20000 in
theorem gX9_clear_X8_set : GoodIn wsX9_clear (wsV RX9 23 RX8 yX8_set wsX8_set) := goodIn_app (goodIn_of _ (by decide +kernel)) ggX9_clear_X8_set
theorem dX9_clear_0 : decode cX9_clear 0 = .ok (.aload_n 0, 1) := by decide +kernel
theorem dX9_clear_1 : decode cX9_clear 1 = .ok (.getfield 14, 3) := by decide +kernel
theorem dX9_clear_4 : decode cX9_clear 4 = .ok (.iconst (-1), 1) := by decide +kernel
theorem dX9_clear_5 : decode cX9_clear 5 = .ok (.invokevirtual 20, 3) := by decide +kernel
theorem dX9_clear_8 : decode cX9_clear 8 = .ok (.iconst 0, 1) := by decide +kernel
theorem dX9_clear_9 : decode cX9_clear 9 = .ok (.istore_n 1, 1) := by decide +kernel
theorem dX9_clear_10 : decode cX9_clear 10 = .ok (.iload_n 1, 1) := by decide +kernel
theorem dX9_clear_11 : decode cX9_clear 11 = .ok (.bipush 7, 2) := by decide +kernel
theorem dX9_clear_13 : decode cX9_clear 13 = .ok (.if_icmp .ge 23, 3) := by decide +kernel
theorem dX9_clear_16 : decode cX9_clear 16 = .ok (.aload_n 0, 1) := by decide +kernel
theorem dX9_clear_17 : decode cX9_clear 17 = .ok (.getfield 14, 3) := by decide +kernel
theorem dX9_clear_20 : decode cX9_clear 20 = .ok (.iload_n 1, 1) := by decide +kernel
theorem dX9_clear_21 : decode cX9_clear 21 = .ok (.bipush 7, 2) := by decide +kernel
theorem dX9_clear_23 : decode cX9_clear 23 = .ok (.imul, 1) := by decide +kernel
theorem dX9_clear_24 : decode cX9_clear 24 = .ok (.iload_n 1, 1) := by decide +kernel
theorem dX9_clear_25 : decode cX9_clear 25 = .ok (.iadd, 1) := by decide +kernel
theorem dX9_clear_26 : decode cX9_clear 26 = .ok (.iconst 0, 1) := by decide +kernel
theorem dX9_clear_27 : decode cX9_clear 27 = .ok (.invokevirtual 23, 3) := by decide +kernel
theorem dX9_clear_30 : decode cX9_clear 30 = .ok (.iinc 1 1, 3) := by decide +kernel
theorem dX9_clear_33 : decode cX9_clear 33 = .ok (.goto (-23), 3) := by decide +kernel
theorem dX9_clear_36 : decode cX9_clear 36 = .ok (.return_, 1) := by decide +kernel
set_option maxRecDepth 20000 in
theorem ggX9_between_X8_get : GoodIn wsX9_between wsX8_get := goodIn_r _ [6, 7, 9] (by decide +kernel) (by decide +kernel)
set_option maxRecDepth 20000 in
theorem gX9_between_X8_get : GoodIn wsX9_between (wsV RX9 27 RX8 yX8_get wsX8_get) := goodIn_app (goodIn_of _ (by decide +kernel)) ggX9_between_X8_get
theorem dX9_between_0 : decode cX9_between 0 = .ok (.aload_n 0, 1) := by decide +kernel
theorem dX9_between_1 : decode cX9_between 1 = .ok (.getfield 14, 3) := by decide +kernel
theorem dX9_between_4 : decode cX9_between 4 = .ok (.iload_n 1, 1) := by decide +kernel
theorem dX9_between_5 : decode cX9_between 5 = .ok (.bipush 7, 2) := by decide +kernel
theorem dX9_between_7 : decode cX9_between 7 = .ok (.imul, 1) := by decide +kernel
theorem dX9_between_8 : decode cX9_between 8 = .ok (.iload_n 2, 1) := by decide +kernel
theorem dX9_between_9 : decode cX9_between 9 = .ok (.iadd, 1) := by decide +kernel
theorem dX9_between_10 : decode cX9_between 10 = .ok (.invokevirtual 27, 3) := by decide +kernel
theorem dX9_between_13 : decode cX9_between 13 = .ok (.ireturn, 1) := by decide +kernel
set_option maxRecDepth 20000 in
theorem ggX9_link_X9_between : GoodIn wsX9_link wsX9_between := goodIn_r _ [6, 1, 7, 8, 9, 10, 11, 12, 17, 18] (by decide +kernel) (by decide +kernel)
set_option maxRecDepth 20000 in
theorem gX9_link_X9_between : GoodIn wsX9_link (wsV RX9 31 RX9 yX9_between wsX9_between) := goodIn_app (goodIn_of _ (by decide +kernel)) ggX9_link_X9_between
set_option maxRecDepth 20000 in
theorem ggX9_link_X8_set : GoodIn wsX9_link wsX8_set := goodIn_r _ [16, 12, 18] (by decide +kernel) (by decide +kernel)
set_option maxRecDepth 20000 in
theorem gX9_link_X8_set : GoodIn wsX9_link (wsV RX9 23 RX8 yX8_set wsX8_set) := goodIn_app (goodIn_of _ (by decide +kernel)) ggX9_link_X8_set
theorem dX9_link_0 : decode cX9_link 0 = .ok (.aload_n 0, 1) := by decide +kernel
theorem dX9_link_1 : decode cX9_link 1 = .ok (.iload_n 1, 1) := by decide +kernel
theorem dX9_link_2 : decode cX9_link 2 = .ok (.iload_n 2, 1) := by decide +kernel
theorem dX9_link_3 : decode cX9_link 3 = .ok (.invokevirtual 31, 3) := by decide +kernel
theorem dX9_link_6 : decode cX9_link 6 = .ok (.istore 4, 2) := by decide +kernel
theorem dX9_link_8 : decode cX9_link 8 = .ok (.iload 4, 2) := by decide +kernel
theorem dX9_link_10 : decode cX9_link 10 = .ok (.iconst (-1), 1) := by decide +kernel
theorem dX9_link_11 : decode cX9_link 11 = .ok (.if_icmp .eq 9, 3) := by decide +kernel
theorem dX9_link_14 : decode cX9_link 14 = .ok (.iload_n 3, 1) := by decide +kernel
theorem dX9_link_15 : decode cX9_link 15 = .ok (.iload 4, 2) := by decide +kernel
theorem dX9_link_17 : decode cX9_link 17 = .ok (.if_icmp .ge 17, 3) := by decide +kernel
theorem dX9_link_20 : decode cX9_link 20 = .ok (.aload_n 0, 1) := by decide +kernel
theorem dX9_link_21 : decode cX9_link 21 = .ok (.getfield 14, 3) := by decide +kernel
theorem dX9_link_24 : decode cX9_link 24 = .ok (.iload_n 1, 1) := by decide +kernel
theorem dX9_link_25 : decode cX9_link 25 = .ok (.bipush 7, 2) := by decide +kernel
theorem dX9_link_27 : decode cX9_link 27 = .ok (.imul, 1) := by decide +kernel
theorem dX9_link_28 : decode cX9_link 28 = .ok (.iload_n 2, 1) := by decide +kernel
theorem dX9_link_29 : decode cX9_link 29 = .ok (.iadd, 1) := by decide +kernel
theorem dX9_link_30 : decode cX9_link 30 = .ok (.iload_n 3, 1) := by decide +kernel
theorem dX9_link_31 : decode cX9_link 31 = .ok (.invokevirtual 23, 3) := by decide +kernel
theorem dX9_link_34 : decode cX9_link 34 = .ok (.return_, 1) := by decide +kernel
set_option maxRecDepth 20000 in
theorem ggX9_joinWays_X9_between : GoodIn wsX9_joinWays wsX9_between := goodIn_r _ [5, 6, 7, 8, 9, 10, 11, 12, 21, 22] (by decide +kernel) (by decide +kernel)
end
section
set_option maxRecDepth 20000 in
theorem gX9_joinWays_X9_between : GoodIn wsX9_joinWays (wsV RX9 31 RX9 yX9_between wsX9_between) := goodIn_app (goodIn_of _ (by decide +kernel)) ggX9_joinWays_X9_between
set_option maxRecDepth 20000 in
theorem ggX9_joinWays_X9_link : GoodIn wsX9_joinWays wsX9_link := goodIn_r _ [16, 6, 1, 2, 3, 4, 5, 7, 8, 9, 10, 11, 12, 17, 18, 19, 20, 21, 22] (by decide +kernel) (by decide +kernel)
set_option maxRecDepth 20000 in
theorem gX9_joinWays_X9_link : GoodIn wsX9_joinWays (wsV RX9 35 RX9 yX9_link wsX9_link) := goodIn_app (goodIn_of _ (by decide +kernel)) ggX9_joinWays_X9_link
theorem dX9_joinWays_0 : decode cX9_joinWays 0 = .ok (.iconst 0, 1) := by decide +kernel
theorem dX9_joinWays_1 : decode cX9_joinWays 1 = .ok (.istore_n 1, 1) := by decide +kernel
theorem dX9_joinWays_2 : decode cX9_joinWays 2 = .ok (.iload_n 1, 1) := by decide +kernel
theorem dX9_joinWays_3 : decode cX9_joinWays 3 = .ok (.bipush 7, 2) := by decide +kernel
theorem dX9_joinWays_5 : decode cX9_joinWays 5 = .ok (.if_icmp .ge 77, 3) := by decide +kernel
theorem dX9_joinWays_8 : decode cX9_joinWays 8 = .ok (.iconst 0, 1) := by decide +kernel
theorem dX9_joinWays_9 : decode cX9_joinWays 9 = .ok (.istore_n 2, 1) := by decide +kernel
theorem dX9_joinWays_10 : decode cX9_joinWays 10 = .ok (.iload_n 2, 1) := by decide +kernel
theorem dX9_joinWays_11 : decode cX9_joinWays 11 = .ok (.bipush 7, 2) := by decide +kernel
theorem dX9_joinWays_13 : decode cX9_joinWays 13 = .ok (.if_icmp .ge 63, 3) := by decide +kernel
theorem dX9_joinWays_16 : decode cX9_joinWays 16 = .ok (.aload_n 0, 1) := by decide +kernel
theorem dX9_joinWays_17 : decode cX9_joinWays 17 = .ok (.iload_n 2, 1) := by decide +kernel
theorem dX9_joinWays_18 : decode cX9_joinWays 18 = .ok (.iload_n 1, 1) := by decide +kernel
theorem dX9_joinWays_19 : decode cX9_joinWays 19 = .ok (.invokevirtual 31, 3) := by decide +kernel
theorem dX9_joinWays_22 : decode cX9_joinWays 22 = .ok (.istore_n 3, 1) := by decide +kernel
theorem dX9_joinWays_23 : decode cX9_joinWays 23 = .ok (.iconst 0, 1) := by decide +kernel
theorem dX9_joinWays_24 : decode cX9_joinWays 24 = .ok (.istore 4, 2) := by decide +kernel
theorem dX9_joinWays_26 : decode cX9_joinWays 26 = .ok (.iload 4, 2) := by decide +kernel
theorem dX9_joinWays_28 : decode cX9_joinWays 28 = .ok (.bipush 7, 2) := by decide +kernel
theorem dX9_joinWays_30 : decode cX9_joinWays 30 = .ok (.if_icmp .ge 40, 3) := by decide +kernel
theorem dX9_joinWays_33 : decode cX9_joinWays 33 = .ok (.iload_n 3, 1) := by decide +kernel
theorem dX9_joinWays_34 : decode cX9_joinWays 34 = .ok (.iconst (-1), 1) := by decide +kernel
theorem dX9_joinWays_35 : decode cX9_joinWays 35 = .ok (.if_icmp .eq 35, 3) := by decide +kernel
theorem dX9_joinWays_38 : decode cX9_joinWays 38 = .ok (.aload_n 0, 1) := by decide +kernel
theorem dX9_joinWays_39 : decode cX9_joinWays 39 = .ok (.iload_n 1, 1) := by decide +kernel
theorem dX9_joinWays_40 : decode cX9_joinWays 40 = .ok (.iload 4, 2) := by decide +kernel
theorem dX9_joinWays_42 : decode cX9_joinWays 42 = .ok (.invokevirtual 31, 3) := by decide +kernel
theorem dX9_joinWays_45 : decode cX9_joinWays 45 = .ok (.istore 5, 2) := by decide +kernel
theorem dX9_joinWays_47 : decode cX9_joinWays 47 = .ok (.iload 5, 2) := by decide +kernel
theorem dX9_joinWays_49 : decode cX9_joinWays 49 = .ok (.iconst (-1), 1) := by decide +kernel
theorem dX9_joinWays_50 : decode cX9_joinWays 50 = .ok (.if_icmp .eq 14, 3) := by decide +kernel
theorem dX9_joinWays_53 : decode cX9_joinWays 53 = .ok (.aload_n 0, 1) := by decide +kernel
theorem dX9_joinWays_54 : decode cX9_joinWays 54 = .ok (.iload_n 2, 1) := by decide +kernel
theorem dX9_joinWays_55 : decode cX9_joinWays 55 = .ok (.iload 4, 2) := by decide +kernel
theorem dX9_joinWays_57 : decode cX9_joinWays 57 = .ok (.iload_n 3, 1) := by decide +kernel
theorem dX9_joinWays_58 : decode cX9_joinWays 58 = .ok (.iload 5, 2) := by decide +kernel
theorem dX9_joinWays_60 : decode cX9_joinWays 60 = .ok (.iadd, 1) := by decide +kernel
theorem dX9_joinWays_61 : decode cX9_joinWays 61 = .ok (.invokevirtual 35, 3) := by decide +kernel
theorem dX9_joinWays_64 : decode cX9_joinWays 64 = .ok (.iinc 4 1, 3) := by decide +kernel
theorem dX9_joinWays_67 : decode cX9_joinWays 67 = .ok (.goto (-41), 3) := by decide +kernel
theorem dX9_joinWays_70 : decode cX9_joinWays 70 = .ok (.iinc 2 1, 3) := by decide +kernel
theorem dX9_joinWays_73 : decode cX9_joinWays 73 = .ok (.goto (-63), 3) := by decide +kernel
theorem dX9_joinWays_76 : decode cX9_joinWays 76 = .ok (.iinc 1 1, 3) := by decide +kernel
theorem dX9_joinWays_79 : decode cX9_joinWays 79 = .ok (.goto (-77), 3) := by decide +kernel
theorem dX9_joinWays_82 : decode cX9_joinWays 82 = .ok (.return_, 1) := by decide +kernel
set_option maxRecDepth 20000 in
theorem ggX10_init_X4_init : GoodIn wsX10_init wsX4_init := goodIn_r _ [41, 42, 2, 3, 43, 44, 45, 46, 47, 48, 49, 50, 51, 52, 53, 54, 55, 56, 57, 58, 59, 152, 108, 109, 110, 153, 154, 155, 156] (by decide +kernel) (by decide +kernel)
set_option maxRecDepth 20000 in
theorem gX10_init_X4_init_n9 : GoodIn wsX10_init (wsX4_init) := ggX10_init_X4_init
set_option maxRecDepth 20000 in
theorem ggX10_init_X5_init : GoodIn wsX10_init wsX5_init := goodIn_r _ [61, 62, 2, 3, 63, 44, 45, 64, 65, 66, 67, 68, 52, 53, 54, 55, 56, 152, 126, 127, 128, 129, 130, 131, 132] (by decide +kernel) (by decide +kernel)
set_option maxRecDepth 20000 in
theorem gX10_init_X5_init_n18 : GoodIn wsX10_init (wsX5_init) := ggX10_init_X5_init
set_option maxRecDepth 20000 in
theorem ggX10_init_X0_init : GoodIn wsX10_init wsX0_init := goodIn_r _ [70, 71, 2, 3, 72, 44, 45, 73, 74, 75, 76, 52, 53, 54, 55, 56, 152, 133, 134, 135, 136] (by decide +kernel) (by decide +kernel)
set_option maxRecDepth 20000 in
theorem gX10_init_X0_init_n25 : GoodIn wsX10_init (wsX0_init) := ggX10_init_X0_init
set_option maxRecDepth 20000 in
theorem ggX10_init_X9_init : GoodIn wsX10_init wsX9_init := goodIn_r _ [78, 79, 2, 3, 80, 44, 45, 81, 82, 52, 53, 54, 55, 56, 152, 137] (by decide +kernel) (by decide +kernel)
set_option maxRecDepth 20000 in
theorem gX10_init_X9_init_n35 : GoodIn wsX10_init (wsX9_init) := ggX10_init_X9_init
set_option maxRecDepth 20000 in
theorem ggX10_init_X1_init : GoodIn wsX10_init wsX1_init := goodIn_r _ [84, 85, 2, 3, 86, 44, 45, 87, 88, 52, 53, 54, 55, 56, 152, 138, 139] (by decide +kernel) (by decide +kernel)
set_option maxRecDepth 20000 in
theorem gX10_init_X1_init_n42 : GoodIn wsX10_init (wsX1_init) := ggX10_init_X1_init
set_option maxRecDepth 20000 in
theorem ggX10_init_X3_init : GoodIn wsX10_init wsX3_init := goodIn_r _ [90, 91, 2, 3, 92, 44, 45, 93, 94, 95, 52, 53, 54, 55, 56, 152, 140, 141, 142, 143, 144, 145] (by decide +kernel) (by decide +kernel)
set_option maxRecDepth 20000 in
theorem gX10_init_X3_init_n49 : GoodIn wsX10_init (wsX3_init) := ggX10_init_X3_init
set_option maxRecDepth 20000 in
theorem ggX10_init_X2_init : GoodIn wsX10_init wsX2_init := goodIn_r _ [97, 98, 2, 3] (by decide +kernel) (by decide +kernel)
set_option maxRecDepth 20000 in
theorem gX10_init_X2_init_n62 : GoodIn wsX10_init (wsX2_init) := ggX10_init_X2_init
set_option maxRecDepth 20000 in
theorem ggX10_init_X7_init : GoodIn wsX10_init wsX7_init := goodIn_r _ [100, 101, 2, 3, 102, 44, 45, 103, 104, 105, 18, 19, 106, 107, 52, 53, 54, 55, 56, 77, 78, 79, 80, 81, 82, 152, 147, 148, 149, 150, 151, 137] (by decide +kernel) (by decide +kernel)
set_option maxRecDepth 20000 in
theorem gX10_init_X7_init_n69 : GoodIn wsX10_init (wsX7_init) := ggX10_init_X7_init
theorem dX10_init_0 : decode cX10_init 0 = .ok (.aload_n 0, 1) := by decide +kernel
theorem dX10_init_1 : decode cX10_init 1 = .ok (.invokespecial 1, 3) := by decide +kernel
theorem dX10_init_4 : decode cX10_init 4 = .ok (.aload_n 0, 1) := by decide +kernel
theorem dX10_init_5 : decode cX10_init 5 = .ok (.new 7, 3) := by decide +kernel
theorem dX10_init_8 : decode cX10_init 8 = .ok (.dup, 1) := by decide +kernel
theorem dX10_init_9 : decode cX10_init 9 = .ok (.invokespecial 9, 3) := by decide +kernel
theorem dX10_init_12 : decode cX10_init 12 = .ok (.putfield 10, 3) := by decide +kernel
theorem dX10_init_15 : decode cX10_init 15 = .ok (.aload_n 0, 1) := by decide +kernel
theorem dX10_init_16 : decode cX10_init 16 = .ok (.new 16, 3) := by decide +kernel
theorem dX10_init_19 : decode cX10_init 19 = .ok (.dup, 1) := by decide +kernel
theorem dX10_init_20 : decode cX10_init 20 = .ok (.invokespecial 18, 3) := by decide +kernel
theorem dX10_init_23 : decode cX10_init 23 = .ok (.putfield 19, 3) := by decide +kernel
theorem dX10_init_26 : decode cX10_init 26 = .ok (.aload_n 0, 1) := by decide +kernel
theorem dX10_init_27 : decode cX10_init 27 = .ok (.new 23, 3) := by decide +kernel
theorem dX10_init_30 : decode cX10_init 30 = .ok (.dup, 1) := by decide +kernel
theorem dX10_init_31 : decode cX10_init 31 = .ok (.invokespecial 25, 3) := by decide +kernel
theorem dX10_init_34 : decode cX10_init 34 = .ok (.putfield 26, 3) := by decide +kernel
theorem dX10_init_37 : decode cX10_init 37 = .ok (.aload_n 0, 1) := by decide +kernel
theorem dX10_init_38 : decode cX10_init 38 = .ok (.new 23, 3) := by decide +kernel
theorem dX10_init_41 : decode cX10_init 41 = .ok (.dup, 1) := by decide +kernel
theorem dX10_init_42 : decode cX10_init 42 = .ok (.invokespecial 25, 3) := by decide +kernel
theorem dX10_init_45 : decode cX10_init 45 = .ok (.putfield 30, 3) := by decide +kernel
theorem dX10_init_48 : decode cX10_init 48 = .ok (.aload_n 0, 1) := by decide +kernel
theorem dX10_init_49 : decode cX10_init 49 = .ok (.new 33, 3) := by decide +kernel
theorem dX10_init_52 : decode cX10_init 52 = .ok (.dup, 1) := by decide +kernel
theorem dX10_init_53 : decode cX10_init 53 = .ok (.invokespecial 35, 3) := by decide +kernel
theorem dX10_init_56 : decode cX10_init 56 = .ok (.putfield 36, 3) := by decide +kernel
theorem dX10_init_59 : decode cX10_init 59 = .ok (.aload_n 0, 1) := by decide +kernel
theorem dX10_init_60 : decode cX10_init 60 = .ok (.new 40, 3) := by decide +kernel
theorem dX10_init_63 : decode cX10_init 63 = .ok (.dup, 1) := by decide +kernel
theorem dX10_init_64 : decode cX10_init 64 = .ok (.invokespecial 42, 3) := by decide +kernel
theorem dX10_init_67 : decode cX10_init 67 = .ok (.putfield 43, 3) := by decide +kernel
theorem dX10_init_70 : decode cX10_init 70 = .ok (.aload_n 0, 1) := by decide +kernel
theorem dX10_init_71 : decode cX10_init 71 = .ok (.new 47, 3) := by decide +kernel
theorem dX10_init_74 : decode cX10_init 74 = .ok (.dup, 1) := by decide +kernel
theorem dX10_init_75 : decode cX10_init 75 = .ok (.invokespecial 49, 3) := by decide +kernel
theorem dX10_init_78 : decode cX10_init 78 = .ok (.putfield 50, 3) := by decide +kernel
theorem dX10_init_81 : decode cX10_init 81 = .ok (.aload_n 0, 1) := by decide +kernel
theorem dX10_init_82 : decode cX10_init 82 = .ok (.new 47, 3) := by decide +kernel
theorem dX10_init_85 : decode cX10_init 85 = .ok (.dup, 1) := by decide +kernel
theorem dX10_init_86 : decode cX10_init 86 = .ok (.invokespecial 49, 3) := by decide +kernel
theorem dX10_init_89 : decode cX10_init 89 = .ok (.putfield 54, 3) := by decide +kernel
theorem dX10_init_92 : decode cX10_init 92 = .ok (.aload_n 0, 1) := by decide +kernel
theorem dX10_init_93 : decode cX10_init 93 = .ok (.new 47, 3) := by decide +kernel
theorem dX10_init_96 : decode cX10_init 96 = .ok (.dup, 1) := by decide +kernel
theorem dX10_init_97 : decode cX10_init 97 = .ok (.invokespecial 49, 3) := by decide +kernel
theorem dX10_init_100 : decode cX10_init 100 = .ok (.putfield 57, 3) := by decide +kernel
theorem dX10_init_103 : decode cX10_init 103 = .ok (.aload_n 0, 1) := by decide +kernel
theorem dX10_init_104 : decode cX10_init 104 = .ok (.new 60, 3) := by decide +kernel
theorem dX10_init_107 : decode cX10_init 107 = .ok (.dup, 1) := by decide +kernel
theorem dX10_init_108 : decode cX10_init 108 = .ok (.invokespecial 62, 3) := by decide +kernel
theorem dX10_init_111 : decode cX10_init 111 = .ok (.putfield 63, 3) := by decide +kernel
theorem dX10_init_114 : decode cX10_init 114 = .ok (.aload_n 0, 1) := by decide +kernel
theorem dX10_init_115 : decode cX10_init 115 = .ok (.new 67, 3) := by decide +kernel
theorem dX10_init_118 : decode cX10_init 118 = .ok (.dup, 1) := by decide +kernel
theorem dX10_init_119 : decode cX10_init 119 = .ok (.invokespecial 69, 3) := by decide +kernel
theorem dX10_init_122 : decode cX10_init 122 = .ok (.putfield 70, 3) := by decide +kernel
theorem dX10_init_125 : decode cX10_init 125 = .ok (.aload_n 0, 1) := by decide +kernel
theorem dX10_init_126 : decode cX10_init 126 = .ok (.iconst (-1), 1) := by decide +kernel
theorem dX10_init_127 : decode cX10_init 127 = .ok (.putfield 74, 3) := by decide +kernel
theorem dX10_init_130 : decode cX10_init 130 = .ok (.return_, 1) := by decide +kernel
set_option maxRecDepth 20000 in
theorem ggX10_letters_X4_lettersIn : GoodIn wsX10_letters wsX4_lettersIn := goodIn_r _ [6, 7, 8, 5, 9, 10] (by decide +kernel) (by decide +kernel)
set_option maxRecDepth 20000 in
theorem gX10_letters_X4_lettersIn : GoodIn wsX10_letters (va_wsS RX10 78 yX4_lettersIn wsX4_lettersIn) := goodIn_app (goodIn_of _ (by decide +kernel)) ggX10_letters_X4_lettersIn
set_option maxRecDepth 20000 in
theorem ggX10_letters_X4_append : GoodIn wsX10_letters wsX4_append := goodIn_r _ [14, 15, 16, 7, 8, 5, 9, 10, 17, 18, 19, 20, 21, 22, 38, 39, 40, 41] (by decide +kernel) (by decide +kernel)
set_option maxRecDepth 20000 in
theorem gX10_letters_X4_append : GoodIn wsX10_letters (wsV RX10 85 RX4 yX4_append wsX4_append) := goodIn_app (goodIn_of _ (by decide +kernel)) ggX10_letters_X4_append
theorem dX10_letters_0 : decode cX10_letters 0 = .ok (.lload_n 1, 1) := by decide +kernel
theorem dX10_letters_1 : decode cX10_letters 1 = .ok (.invokestatic 78, 3) := by decide +kernel
theorem dX10_letters_4 : decode cX10_letters 4 = .ok (.istore_n 3, 1) := by decide +kernel
theorem dX10_letters_5 : decode cX10_letters 5 = .ok (.iload_n 3, 1) := by decide +kernel
theorem dX10_letters_6 : decode cX10_letters 6 = .ok (.iconst (-1), 1) := by decide +kernel
theorem dX10_letters_7 : decode cX10_letters 7 = .ok (.if_icmp .ne 6, 3) := by decide +kernel
theorem dX10_letters_10 : decode cX10_letters 10 = .ok (.bipush (-102), 2) := by decide +kernel
theorem dX10_letters_12 : decode cX10_letters 12 = .ok (.ireturn, 1) := by decide +kernel
theorem dX10_letters_13 : decode cX10_letters 13 = .ok (.aload_n 0, 1) := by decide +kernel
theorem dX10_letters_14 : decode cX10_letters 14 = .ok (.getfield 10, 3) := by decide +kernel
theorem dX10_letters_17 : decode cX10_letters 17 = .ok (.getfield 82, 3) := by decide +kernel
theorem dX10_letters_20 : decode cX10_letters 20 = .ok (.iload_n 3, 1) := by decide +kernel
theorem dX10_letters_21 : decode cX10_letters 21 = .ok (.iadd, 1) := by decide +kernel
theorem dX10_letters_22 : decode cX10_letters 22 = .ok (.bipush 66, 2) := by decide +kernel
theorem dX10_letters_24 : decode cX10_letters 24 = .ok (.if_icmp .le 6, 3) := by decide +kernel
theorem dX10_letters_27 : decode cX10_letters 27 = .ok (.bipush (-104), 2) := by decide +kernel
theorem dX10_letters_29 : decode cX10_letters 29 = .ok (.ireturn, 1) := by decide +kernel
theorem dX10_letters_30 : decode cX10_letters 30 = .ok (.aload_n 0, 1) := by decide +kernel
theorem dX10_letters_31 : decode cX10_letters 31 = .ok (.getfield 10, 3) := by decide +kernel
theorem dX10_letters_34 : decode cX10_letters 34 = .ok (.lload_n 1, 1) := by decide +kernel
theorem dX10_letters_35 : decode cX10_letters 35 = .ok (.iload_n 3, 1) := by decide +kernel
theorem dX10_letters_36 : decode cX10_letters 36 = .ok (.invokevirtual 85, 3) := by decide +kernel
theorem dX10_letters_39 : decode cX10_letters 39 = .ok (.aload_n 0, 1) := by decide +kernel
theorem dX10_letters_40 : decode cX10_letters 40 = .ok (.getfield 10, 3) := by decide +kernel
theorem dX10_letters_43 : decode cX10_letters 43 = .ok (.getfield 82, 3) := by decide +kernel
theorem dX10_letters_46 : decode cX10_letters 46 = .ok (.ireturn, 1) := by decide +kernel
set_option maxRecDepth 20000 in
theorem ggX10_fault_X4_firstFault : GoodIn wsX10_fault wsX4_firstFault := goodIn_r _ [6, 7, 8, 9, 10, 11, 12, 13, 14, 15, 16, 17, 18, 19, 20, 21, 22, 23, 24, 25, 26, 27, 28, 29, 30, 31, 32, 33, 34, 35, 36, 37, 38, 39, 40, 41, 57, 58, 59, 60, 61, 62, 63, 64] (by decide +kernel) (by decide +kernel)
set_option maxRecDepth 20000 in
theorem gX10_fault_X4_firstFault : GoodIn wsX10_fault (wsV RX10 89 RX4 yX4_firstFault wsX4_firstFault) := goodIn_app (goodIn_of _ (by decide +kernel)) ggX10_fault_X4_firstFault
theorem dX10_fault_0 : decode cX10_fault 0 = .ok (.aload_n 0, 1) := by decide +kernel
theorem dX10_fault_1 : decode cX10_fault 1 = .ok (.getfield 10, 3) := by decide +kernel
theorem dX10_fault_4 : decode cX10_fault 4 = .ok (.invokevirtual 89, 3) := by decide +kernel
theorem dX10_fault_7 : decode cX10_fault 7 = .ok (.ireturn, 1) := by decide +kernel
set_option maxRecDepth 20000 in
theorem ggX10_mine_X4_isMine : GoodIn wsX10_mine wsX4_isMine := goodIn_r _ [13, 14, 15, 16, 17, 18, 12, 19, 20, 21, 22, 23, 24, 25, 26, 27, 28, 29, 30, 31, 32, 33, 34, 35, 36, 37, 38, 39, 40, 41, 42, 43, 44, 45, 46, 47, 48, 49, 50, 51, 52, 53, 54, 55, 56, 57, 58, 59, 60, 61, 62, 63, 203, 204, 205, 215, 216, 217, 218, 219] (by decide +kernel) (by decide +kernel)
set_option maxRecDepth 20000 in
theorem gX10_mine_X4_isMine : GoodIn wsX10_mine (wsV RX10 93 RX4 yX4_isMine wsX4_isMine) := goodIn_app (goodIn_of _ (by decide +kernel)) ggX10_mine_X4_isMine
set_option maxRecDepth 20000 in
theorem ggX10_mine_X5_readFrom : GoodIn wsX10_mine wsX5_readFrom := goodIn_r _ [68, 69, 70, 71, 72, 73, 74, 75, 30, 31, 32, 33, 34, 76, 77, 78, 12, 79, 20, 29, 80, 81, 82, 83, 84, 85, 86, 67, 87, 88, 89, 90, 91, 92, 93, 94, 208, 209, 210, 211, 212, 213, 214, 203, 204, 205, 219] (by decide +kernel) (by decide +kernel)
set_option maxRecDepth 20000 in
theorem gX10_mine_X5_readFrom : GoodIn wsX10_mine (wsV RX10 97 RX5 yX5_readFrom wsX5_readFrom) := goodIn_app (goodIn_of _ (by decide +kernel)) ggX10_mine_X5_readFrom
set_option maxRecDepth 20000 in
theorem ggX10_mine_X5_allGalleries : GoodIn wsX10_mine wsX5_allGalleries := goodIn_r _ [98, 69, 208, 209, 210, 211, 212, 213, 214] (by decide +kernel) (by decide +kernel)
set_option maxRecDepth 20000 in
theorem gX10_mine_X5_allGalleries : GoodIn wsX10_mine (wsV RX10 104 RX5 yX5_allGalleries wsX5_allGalleries) := goodIn_app (goodIn_of _ (by decide +kernel)) ggX10_mine_X5_allGalleries
set_option maxRecDepth 20000 in
theorem ggX10_mine_X3_begin : GoodIn wsX10_mine wsX3_begin := goodIn_r _ [103, 104, 105, 106, 107, 108, 109, 92, 93, 32, 94, 34, 220, 221, 222, 223, 224, 225, 219] (by decide +kernel) (by decide +kernel)
set_option maxRecDepth 20000 in
theorem gX10_mine_X3_begin : GoodIn wsX10_mine (wsV RX10 107 RX3 yX3_begin wsX3_begin) := goodIn_app (goodIn_of _ (by decide +kernel)) ggX10_mine_X3_begin
set_option maxRecDepth 20000 in
theorem ggX10_mine_X10_windChanges : GoodIn wsX10_mine wsX10_windChanges := goodIn_r _ [113, 114, 2, 6, 115, 116, 117, 118, 119, 120, 121, 122, 123, 124, 125, 126, 127, 128, 129, 130, 131, 132, 133, 81, 82, 32, 83, 34, 51, 41, 52, 134, 30, 31, 33, 135, 136, 137, 138, 139, 140, 141, 142, 58, 59, 60, 61, 62, 63, 143, 144, 145, 67, 146, 88, 75, 147, 148, 149, 150, 151, 152, 153, 154, 155, 156, 157, 158, 159, 160, 161, 162, 163, 164, 165, 166, 167, 168, 92, 93, 94, 169, 170, 171, 172, 173, 72, 73, 174, 175, 176, 177, 178, 179, 180, 181, 182, 183, 184, 185, 186, 187, 188, 189, 190, 191, 192, 193, 194, 195, 196, 197, 198, 199, 200, 201, 202, 220, 221, 222, 223, 224, 225, 226, 227, 228, 229, 208, 209, 210, 211, 212, 213, 214, 219, 230] (by decide +kernel) (by decide +kernel)
set_option maxRecDepth 20000 in
theorem gX10_mine_X10_windChanges : GoodIn wsX10_mine (wsV RX10 114 RX10 yX10_windChanges wsX10_windChanges) := goodIn_app (goodIn_of _ (by decide +kernel)) ggX10_mine_X10_windChanges
theorem dX10_mine_0 : decode cX10_mine 0 = .ok (.aload_n 0, 1) := by decide +kernel
theorem dX10_mine_1 : decode cX10_mine 1 = .ok (.getfield 10, 3) := by decide +kernel
theorem dX10_mine_4 : decode cX10_mine 4 = .ok (.invokevirtual 93, 3) := by decide +kernel
theorem dX10_mine_7 : decode cX10_mine 7 = .ok (.ifCond .ne 6, 3) := by decide +kernel
theorem dX10_mine_10 : decode cX10_mine 10 = .ok (.bipush (-103), 2) := by decide +kernel
theorem dX10_mine_12 : decode cX10_mine 12 = .ok (.ireturn, 1) := by decide +kernel
theorem dX10_mine_13 : decode cX10_mine 13 = .ok (.aload_n 0, 1) := by decide +kernel
theorem dX10_mine_14 : decode cX10_mine 14 = .ok (.getfield 19, 3) := by decide +kernel
theorem dX10_mine_17 : decode cX10_mine 17 = .ok (.aload_n 0, 1) := by decide +kernel
theorem dX10_mine_18 : decode cX10_mine 18 = .ok (.getfield 10, 3) := by decide +kernel
theorem dX10_mine_21 : decode cX10_mine 21 = .ok (.invokevirtual 97, 3) := by decide +kernel
theorem dX10_mine_24 : decode cX10_mine 24 = .ok (.aload_n 0, 1) := by decide +kernel
theorem dX10_mine_25 : decode cX10_mine 25 = .ok (.getfield 10, 3) := by decide +kernel
theorem dX10_mine_28 : decode cX10_mine 28 = .ok (.iconst 0, 1) := by decide +kernel
theorem dX10_mine_29 : decode cX10_mine 29 = .ok (.putfield 82, 3) := by decide +kernel
theorem dX10_mine_32 : decode cX10_mine 32 = .ok (.aload_n 0, 1) := by decide +kernel
theorem dX10_mine_33 : decode cX10_mine 33 = .ok (.getfield 43, 3) := by decide +kernel
theorem dX10_mine_36 : decode cX10_mine 36 = .ok (.iconst 0, 1) := by decide +kernel
theorem dX10_mine_37 : decode cX10_mine 37 = .ok (.putfield 101, 3) := by decide +kernel
theorem dX10_mine_40 : decode cX10_mine 40 = .ok (.aload_n 0, 1) := by decide +kernel
theorem dX10_mine_41 : decode cX10_mine 41 = .ok (.getfield 50, 3) := by decide +kernel
theorem dX10_mine_44 : decode cX10_mine 44 = .ok (.aload_n 0, 1) := by decide +kernel
theorem dX10_mine_45 : decode cX10_mine 45 = .ok (.getfield 19, 3) := by decide +kernel
theorem dX10_mine_48 : decode cX10_mine 48 = .ok (.invokevirtual 104, 3) := by decide +kernel
theorem dX10_mine_51 : decode cX10_mine 51 = .ok (.invokevirtual 107, 3) := by decide +kernel
theorem dX10_mine_54 : decode cX10_mine 54 = .ok (.aload_n 0, 1) := by decide +kernel
theorem dX10_mine_55 : decode cX10_mine 55 = .ok (.dup, 1) := by decide +kernel
theorem dX10_mine_56 : decode cX10_mine 56 = .ok (.getfield 111, 3) := by decide +kernel
theorem dX10_mine_59 : decode cX10_mine 59 = .ok (.iconst 1, 1) := by decide +kernel
theorem dX10_mine_60 : decode cX10_mine 60 = .ok (.iadd, 1) := by decide +kernel
theorem dX10_mine_61 : decode cX10_mine 61 = .ok (.putfield 111, 3) := by decide +kernel
theorem dX10_mine_64 : decode cX10_mine 64 = .ok (.aload_n 0, 1) := by decide +kernel
theorem dX10_mine_65 : decode cX10_mine 65 = .ok (.invokevirtual 114, 3) := by decide +kernel
theorem dX10_mine_68 : decode cX10_mine 68 = .ok (.aload_n 0, 1) := by decide +kernel
theorem dX10_mine_69 : decode cX10_mine 69 = .ok (.getfield 19, 3) := by decide +kernel
theorem dX10_mine_72 : decode cX10_mine 72 = .ok (.getfield 117, 3) := by decide +kernel
theorem dX10_mine_75 : decode cX10_mine 75 = .ok (.ireturn, 1) := by decide +kernel
set_option maxRecDepth 20000 in
theorem ggX10_gallery_X5_hasGallery : GoodIn wsX10_gallery wsX5_hasGallery := goodIn_r _ [14, 15, 41, 42, 43, 44, 45, 46, 47] (by decide +kernel) (by decide +kernel)
set_option maxRecDepth 20000 in
theorem gX10_gallery_X5_hasGallery : GoodIn wsX10_gallery (wsV RX10 120 RX5 yX5_hasGallery wsX5_hasGallery) := goodIn_app (goodIn_of _ (by decide +kernel)) ggX10_gallery_X5_hasGallery
set_option maxRecDepth 20000 in
theorem ggX10_gallery_X8_get : GoodIn wsX10_gallery wsX8_get := goodIn_r _ [20, 21, 58] (by decide +kernel) (by decide +kernel)
set_option maxRecDepth 20000 in
theorem gX10_gallery_X8_get : GoodIn wsX10_gallery (wsV RX10 128 RX8 yX8_get wsX8_get) := goodIn_app (goodIn_of _ (by decide +kernel)) ggX10_gallery_X8_get
set_option maxRecDepth 20000 in
theorem ggX10_gallery_X10_bit : GoodIn wsX10_gallery wsX10_bit := goodIn_r _ [25] (by decide +kernel) (by decide +kernel)
set_option maxRecDepth 20000 in
theorem gX10_gallery_X10_bit : GoodIn wsX10_gallery (va_wsS RX10 142 yX10_bit wsX10_bit) := goodIn_app (goodIn_of _ (by decide +kernel)) ggX10_gallery_X10_bit
theorem dX10_gallery_0 : decode cX10_gallery 0 = .ok (.aload_n 0, 1) := by decide +kernel
theorem dX10_gallery_1 : decode cX10_gallery 1 = .ok (.getfield 19, 3) := by decide +kernel
theorem dX10_gallery_4 : decode cX10_gallery 4 = .ok (.iload_n 1, 1) := by decide +kernel
theorem dX10_gallery_5 : decode cX10_gallery 5 = .ok (.invokevirtual 120, 3) := by decide +kernel
theorem dX10_gallery_8 : decode cX10_gallery 8 = .ok (.ifCond .ne 6, 3) := by decide +kernel
theorem dX10_gallery_11 : decode cX10_gallery 11 = .ok (.bipush (-101), 2) := by decide +kernel
theorem dX10_gallery_13 : decode cX10_gallery 13 = .ok (.ireturn, 1) := by decide +kernel
theorem dX10_gallery_14 : decode cX10_gallery 14 = .ok (.iload_n 2, 1) := by decide +kernel
theorem dX10_gallery_15 : decode cX10_gallery 15 = .ok (.tableswitch 109 0 5 #[37, 49, 61, 73, 85, 97], 37) := by decide +kernel
theorem dX10_gallery_52 : decode cX10_gallery 52 = .ok (.aload_n 0, 1) := by decide +kernel
theorem dX10_gallery_53 : decode cX10_gallery 53 = .ok (.getfield 19, 3) := by decide +kernel
theorem dX10_gallery_56 : decode cX10_gallery 56 = .ok (.getfield 124, 3) := by decide +kernel
theorem dX10_gallery_59 : decode cX10_gallery 59 = .ok (.iload_n 1, 1) := by decide +kernel
theorem dX10_gallery_60 : decode cX10_gallery 60 = .ok (.invokevirtual 128, 3) := by decide +kernel
theorem dX10_gallery_63 : decode cX10_gallery 63 = .ok (.ireturn, 1) := by decide +kernel
theorem dX10_gallery_64 : decode cX10_gallery 64 = .ok (.aload_n 0, 1) := by decide +kernel
theorem dX10_gallery_65 : decode cX10_gallery 65 = .ok (.getfield 19, 3) := by decide +kernel
theorem dX10_gallery_68 : decode cX10_gallery 68 = .ok (.getfield 134, 3) := by decide +kernel
theorem dX10_gallery_71 : decode cX10_gallery 71 = .ok (.iload_n 1, 1) := by decide +kernel
theorem dX10_gallery_72 : decode cX10_gallery 72 = .ok (.invokevirtual 128, 3) := by decide +kernel
theorem dX10_gallery_75 : decode cX10_gallery 75 = .ok (.ireturn, 1) := by decide +kernel
theorem dX10_gallery_76 : decode cX10_gallery 76 = .ok (.aload_n 0, 1) := by decide +kernel
theorem dX10_gallery_77 : decode cX10_gallery 77 = .ok (.getfield 19, 3) := by decide +kernel
theorem dX10_gallery_80 : decode cX10_gallery 80 = .ok (.getfield 137, 3) := by decide +kernel
theorem dX10_gallery_83 : decode cX10_gallery 83 = .ok (.iload_n 1, 1) := by decide +kernel
theorem dX10_gallery_84 : decode cX10_gallery 84 = .ok (.invokevirtual 128, 3) := by decide +kernel
theorem dX10_gallery_87 : decode cX10_gallery 87 = .ok (.ireturn, 1) := by decide +kernel
theorem dX10_gallery_88 : decode cX10_gallery 88 = .ok (.aload_n 0, 1) := by decide +kernel
theorem dX10_gallery_89 : decode cX10_gallery 89 = .ok (.getfield 19, 3) := by decide +kernel
theorem dX10_gallery_92 : decode cX10_gallery 92 = .ok (.getfield 139, 3) := by decide +kernel
theorem dX10_gallery_95 : decode cX10_gallery 95 = .ok (.iload_n 1, 1) := by decide +kernel
theorem dX10_gallery_96 : decode cX10_gallery 96 = .ok (.invokestatic 142, 3) := by decide +kernel
theorem dX10_gallery_99 : decode cX10_gallery 99 = .ok (.ireturn, 1) := by decide +kernel
theorem dX10_gallery_100 : decode cX10_gallery 100 = .ok (.aload_n 0, 1) := by decide +kernel
theorem dX10_gallery_101 : decode cX10_gallery 101 = .ok (.getfield 50, 3) := by decide +kernel
theorem dX10_gallery_104 : decode cX10_gallery 104 = .ok (.getfield 146, 3) := by decide +kernel
theorem dX10_gallery_107 : decode cX10_gallery 107 = .ok (.iload_n 1, 1) := by decide +kernel
theorem dX10_gallery_108 : decode cX10_gallery 108 = .ok (.invokestatic 142, 3) := by decide +kernel
theorem dX10_gallery_111 : decode cX10_gallery 111 = .ok (.ireturn, 1) := by decide +kernel
theorem dX10_gallery_112 : decode cX10_gallery 112 = .ok (.aload_n 0, 1) := by decide +kernel
theorem dX10_gallery_113 : decode cX10_gallery 113 = .ok (.getfield 26, 3) := by decide +kernel
theorem dX10_gallery_116 : decode cX10_gallery 116 = .ok (.getfield 149, 3) := by decide +kernel
theorem dX10_gallery_119 : decode cX10_gallery 119 = .ok (.iload_n 1, 1) := by decide +kernel
theorem dX10_gallery_120 : decode cX10_gallery 120 = .ok (.invokevirtual 128, 3) := by decide +kernel
theorem dX10_gallery_123 : decode cX10_gallery 123 = .ok (.ireturn, 1) := by decide +kernel
theorem dX10_gallery_124 : decode cX10_gallery 124 = .ok (.bipush (-102), 2) := by decide +kernel
theorem dX10_gallery_126 : decode cX10_gallery 126 = .ok (.ireturn, 1) := by decide +kernel
set_option maxRecDepth 20000 in
theorem ggX10_knot_X5_isRead : GoodIn wsX10_knot wsX5_isRead := goodIn_r _ [12, 13, 42, 43, 44, 45, 46, 47, 48] (by decide +kernel) (by decide +kernel)
set_option maxRecDepth 20000 in
theorem gX10_knot_X5_isRead : GoodIn wsX10_knot (wsV RX10 152 RX5 yX5_isRead wsX5_isRead) := goodIn_app (goodIn_of _ (by decide +kernel)) ggX10_knot_X5_isRead
set_option maxRecDepth 20000 in
theorem ggX10_knot_X10_isKnot : GoodIn wsX10_knot wsX10_isKnot := goodIn_r _ [17] (by decide +kernel) (by decide +kernel)
set_option maxRecDepth 20000 in
theorem gX10_knot_X10_isKnot : GoodIn wsX10_knot (va_wsS RX10 155 yX10_isKnot wsX10_isKnot) := goodIn_app (goodIn_of _ (by decide +kernel)) ggX10_knot_X10_isKnot
set_option maxRecDepth 20000 in
theorem ggX10_knot_X8_get : GoodIn wsX10_knot wsX8_get := goodIn_r _ [22, 23, 59] (by decide +kernel) (by decide +kernel)
set_option maxRecDepth 20000 in
theorem gX10_knot_X8_get : GoodIn wsX10_knot (wsV RX10 128 RX8 yX8_get wsX8_get) := goodIn_app (goodIn_of _ (by decide +kernel)) ggX10_knot_X8_get
set_option maxRecDepth 20000 in
theorem ggX10_knot_X10_bit : GoodIn wsX10_knot wsX10_bit := goodIn_r _ [26] (by decide +kernel) (by decide +kernel)
set_option maxRecDepth 20000 in
theorem gX10_knot_X10_bit : GoodIn wsX10_knot (va_wsS RX10 142 yX10_bit wsX10_bit) := goodIn_app (goodIn_of _ (by decide +kernel)) ggX10_knot_X10_bit
theorem dX10_knot_0 : decode cX10_knot 0 = .ok (.aload_n 0, 1) := by decide +kernel
theorem dX10_knot_1 : decode cX10_knot 1 = .ok (.getfield 19, 3) := by decide +kernel
theorem dX10_knot_4 : decode cX10_knot 4 = .ok (.invokevirtual 152, 3) := by decide +kernel
theorem dX10_knot_7 : decode cX10_knot 7 = .ok (.ifCond .eq 10, 3) := by decide +kernel
theorem dX10_knot_10 : decode cX10_knot 10 = .ok (.iload_n 1, 1) := by decide +kernel
theorem dX10_knot_11 : decode cX10_knot 11 = .ok (.invokestatic 155, 3) := by decide +kernel
theorem dX10_knot_14 : decode cX10_knot 14 = .ok (.ifCond .ne 6, 3) := by decide +kernel
theorem dX10_knot_17 : decode cX10_knot 17 = .ok (.bipush (-101), 2) := by decide +kernel
theorem dX10_knot_19 : decode cX10_knot 19 = .ok (.ireturn, 1) := by decide +kernel
theorem dX10_knot_20 : decode cX10_knot 20 = .ok (.iload_n 2, 1) := by decide +kernel
theorem dX10_knot_21 : decode cX10_knot 21 = .ok (.tableswitch 79 0 3 #[31, 43, 55, 67], 31) := by decide +kernel
theorem dX10_knot_52 : decode cX10_knot 52 = .ok (.aload_n 0, 1) := by decide +kernel
theorem dX10_knot_53 : decode cX10_knot 53 = .ok (.getfield 19, 3) := by decide +kernel
theorem dX10_knot_56 : decode cX10_knot 56 = .ok (.getfield 158, 3) := by decide +kernel
theorem dX10_knot_59 : decode cX10_knot 59 = .ok (.iload_n 1, 1) := by decide +kernel
theorem dX10_knot_60 : decode cX10_knot 60 = .ok (.invokevirtual 128, 3) := by decide +kernel
theorem dX10_knot_63 : decode cX10_knot 63 = .ok (.ireturn, 1) := by decide +kernel
theorem dX10_knot_64 : decode cX10_knot 64 = .ok (.aload_n 0, 1) := by decide +kernel
theorem dX10_knot_65 : decode cX10_knot 65 = .ok (.getfield 26, 3) := by decide +kernel
theorem dX10_knot_68 : decode cX10_knot 68 = .ok (.getfield 161, 3) := by decide +kernel
theorem dX10_knot_71 : decode cX10_knot 71 = .ok (.iload_n 1, 1) := by decide +kernel
theorem dX10_knot_72 : decode cX10_knot 72 = .ok (.invokevirtual 128, 3) := by decide +kernel
theorem dX10_knot_75 : decode cX10_knot 75 = .ok (.ireturn, 1) := by decide +kernel
theorem dX10_knot_76 : decode cX10_knot 76 = .ok (.aload_n 0, 1) := by decide +kernel
theorem dX10_knot_77 : decode cX10_knot 77 = .ok (.getfield 26, 3) := by decide +kernel
theorem dX10_knot_80 : decode cX10_knot 80 = .ok (.getfield 164, 3) := by decide +kernel
theorem dX10_knot_83 : decode cX10_knot 83 = .ok (.iload_n 1, 1) := by decide +kernel
theorem dX10_knot_84 : decode cX10_knot 84 = .ok (.invokestatic 142, 3) := by decide +kernel
theorem dX10_knot_87 : decode cX10_knot 87 = .ok (.ireturn, 1) := by decide +kernel
theorem dX10_knot_88 : decode cX10_knot 88 = .ok (.aload_n 0, 1) := by decide +kernel
theorem dX10_knot_89 : decode cX10_knot 89 = .ok (.getfield 50, 3) := by decide +kernel
theorem dX10_knot_92 : decode cX10_knot 92 = .ok (.getfield 167, 3) := by decide +kernel
theorem dX10_knot_95 : decode cX10_knot 95 = .ok (.iload_n 1, 1) := by decide +kernel
theorem dX10_knot_96 : decode cX10_knot 96 = .ok (.invokevirtual 128, 3) := by decide +kernel
theorem dX10_knot_99 : decode cX10_knot 99 = .ok (.ireturn, 1) := by decide +kernel
theorem dX10_knot_100 : decode cX10_knot 100 = .ok (.bipush (-102), 2) := by decide +kernel
theorem dX10_knot_102 : decode cX10_knot 102 = .ok (.ireturn, 1) := by decide +kernel
set_option maxRecDepth 20000 in
theorem ggX10_door_X5_hasGallery : GoodIn wsX10_door wsX5_hasGallery := goodIn_r _ [9, 10, 128, 129, 130, 131, 132, 133, 134] (by decide +kernel) (by decide +kernel)
set_option maxRecDepth 20000 in
theorem gX10_door_X5_hasGallery : GoodIn wsX10_door (wsV RX10 120 RX5 yX5_hasGallery wsX5_hasGallery) := goodIn_app (goodIn_of _ (by decide +kernel)) ggX10_door_X5_hasGallery
set_option maxRecDepth 20000 in
theorem ggX10_door_X10_bit : GoodIn wsX10_door wsX10_bit := goodIn_r _ [14] (by decide +kernel) (by decide +kernel)
set_option maxRecDepth 20000 in
theorem gX10_door_X10_bit : GoodIn wsX10_door (va_wsS RX10 142 yX10_bit wsX10_bit) := goodIn_app (goodIn_of _ (by decide +kernel)) ggX10_door_X10_bit
set_option maxRecDepth 20000 in
theorem ggX10_door_X10_windChanges : GoodIn wsX10_door wsX10_windChanges := goodIn_r _ [18, 19, 1, 3, 4, 20, 21, 22, 23, 24, 25, 26, 27, 28, 29, 30, 31, 32, 33, 34, 35, 36, 37, 38, 39, 40, 41, 42, 12, 13, 14, 43, 44, 45, 46, 47, 48, 49, 50, 51, 52, 53, 54, 55, 56, 57, 58, 59, 60, 61, 62, 63, 8, 64, 65, 66, 67, 68, 69, 70, 71, 72, 73, 74, 75, 76, 77, 78, 79, 80, 81, 82, 83, 84, 85, 86, 87, 88, 89, 90, 91, 92, 93, 94, 95, 96, 97, 98, 99, 100, 101, 102, 103, 104, 105, 106, 107, 108, 109, 110, 111, 112, 113, 114, 115, 116, 117, 118, 119, 120, 121, 122, 123, 124, 125, 126, 127, 135, 136, 137, 138, 139, 140, 141, 142, 143, 144, 128, 129, 130, 131, 132, 133, 134, 145, 146] (by decide +kernel) (by decide +kernel)
set_option maxRecDepth 20000 in
theorem gX10_door_X10_windChanges : GoodIn wsX10_door (wsV RX10 114 RX10 yX10_windChanges wsX10_windChanges) := goodIn_app (goodIn_of _ (by decide +kernel)) ggX10_door_X10_windChanges
theorem dX10_door_0 : decode cX10_door 0 = .ok (.aload_n 0, 1) := by decide +kernel
theorem dX10_door_1 : decode cX10_door 1 = .ok (.getfield 19, 3) := by decide +kernel
theorem dX10_door_4 : decode cX10_door 4 = .ok (.iload_n 1, 1) := by decide +kernel
theorem dX10_door_5 : decode cX10_door 5 = .ok (.invokevirtual 120, 3) := by decide +kernel
theorem dX10_door_8 : decode cX10_door 8 = .ok (.ifCond .ne 6, 3) := by decide +kernel
theorem dX10_door_11 : decode cX10_door 11 = .ok (.bipush (-101), 2) := by decide +kernel
theorem dX10_door_13 : decode cX10_door 13 = .ok (.ireturn, 1) := by decide +kernel
theorem dX10_door_14 : decode cX10_door 14 = .ok (.aload_n 0, 1) := by decide +kernel
theorem dX10_door_15 : decode cX10_door 15 = .ok (.getfield 19, 3) := by decide +kernel
theorem dX10_door_18 : decode cX10_door 18 = .ok (.getfield 139, 3) := by decide +kernel
theorem dX10_door_21 : decode cX10_door 21 = .ok (.iload_n 1, 1) := by decide +kernel
theorem dX10_door_22 : decode cX10_door 22 = .ok (.invokestatic 142, 3) := by decide +kernel
theorem dX10_door_25 : decode cX10_door 25 = .ok (.ifCond .ne 6, 3) := by decide +kernel
theorem dX10_door_28 : decode cX10_door 28 = .ok (.bipush (-103), 2) := by decide +kernel
theorem dX10_door_30 : decode cX10_door 30 = .ok (.ireturn, 1) := by decide +kernel
theorem dX10_door_31 : decode cX10_door 31 = .ok (.aload_n 0, 1) := by decide +kernel
theorem dX10_door_32 : decode cX10_door 32 = .ok (.getfield 50, 3) := by decide +kernel
theorem dX10_door_35 : decode cX10_door 35 = .ok (.getfield 146, 3) := by decide +kernel
theorem dX10_door_38 : decode cX10_door 38 = .ok (.iload_n 1, 1) := by decide +kernel
theorem dX10_door_39 : decode cX10_door 39 = .ok (.invokestatic 142, 3) := by decide +kernel
theorem dX10_door_42 : decode cX10_door 42 = .ok (.istore_n 3, 1) := by decide +kernel
theorem dX10_door_43 : decode cX10_door 43 = .ok (.aload_n 0, 1) := by decide +kernel
theorem dX10_door_44 : decode cX10_door 44 = .ok (.getfield 50, 3) := by decide +kernel
theorem dX10_door_47 : decode cX10_door 47 = .ok (.iload_n 2, 1) := by decide +kernel
theorem dX10_door_48 : decode cX10_door 48 = .ok (.ifCond .eq 17, 3) := by decide +kernel
theorem dX10_door_51 : decode cX10_door 51 = .ok (.aload_n 0, 1) := by decide +kernel
theorem dX10_door_52 : decode cX10_door 52 = .ok (.getfield 50, 3) := by decide +kernel
theorem dX10_door_55 : decode cX10_door 55 = .ok (.getfield 146, 3) := by decide +kernel
theorem dX10_door_58 : decode cX10_door 58 = .ok (.iconst 1, 1) := by decide +kernel
theorem dX10_door_59 : decode cX10_door 59 = .ok (.iload_n 1, 1) := by decide +kernel
theorem dX10_door_60 : decode cX10_door 60 = .ok (.ishl, 1) := by decide +kernel
theorem dX10_door_61 : decode cX10_door 61 = .ok (.ior, 1) := by decide +kernel
theorem dX10_door_62 : decode cX10_door 62 = .ok (.goto 16, 3) := by decide +kernel
theorem dX10_door_65 : decode cX10_door 65 = .ok (.aload_n 0, 1) := by decide +kernel
theorem dX10_door_66 : decode cX10_door 66 = .ok (.getfield 50, 3) := by decide +kernel
theorem dX10_door_69 : decode cX10_door 69 = .ok (.getfield 146, 3) := by decide +kernel
theorem dX10_door_72 : decode cX10_door 72 = .ok (.iconst 1, 1) := by decide +kernel
theorem dX10_door_73 : decode cX10_door 73 = .ok (.iload_n 1, 1) := by decide +kernel
theorem dX10_door_74 : decode cX10_door 74 = .ok (.ishl, 1) := by decide +kernel
theorem dX10_door_75 : decode cX10_door 75 = .ok (.iconst (-1), 1) := by decide +kernel
theorem dX10_door_76 : decode cX10_door 76 = .ok (.ixor, 1) := by decide +kernel
theorem dX10_door_77 : decode cX10_door 77 = .ok (.iand, 1) := by decide +kernel
theorem dX10_door_78 : decode cX10_door 78 = .ok (.putfield 146, 3) := by decide +kernel
theorem dX10_door_81 : decode cX10_door 81 = .ok (.aload_n 0, 1) := by decide +kernel
theorem dX10_door_82 : decode cX10_door 82 = .ok (.invokevirtual 114, 3) := by decide +kernel
theorem dX10_door_85 : decode cX10_door 85 = .ok (.iload_n 3, 1) := by decide +kernel
theorem dX10_door_86 : decode cX10_door 86 = .ok (.ireturn, 1) := by decide +kernel
set_option maxRecDepth 20000 in
theorem ggX10_turn_X5_isRead : GoodIn wsX10_turn wsX5_isRead := goodIn_r _ [8, 9, 132, 133, 134, 135, 136, 137, 138] (by decide +kernel) (by decide +kernel)
set_option maxRecDepth 20000 in
theorem gX10_turn_X5_isRead : GoodIn wsX10_turn (wsV RX10 152 RX5 yX5_isRead wsX5_isRead) := goodIn_app (goodIn_of _ (by decide +kernel)) ggX10_turn_X5_isRead
set_option maxRecDepth 20000 in
theorem ggX10_turn_X10_windChanges : GoodIn wsX10_turn wsX10_windChanges := goodIn_r _ [14, 15, 1, 2, 16, 3, 17, 18, 19, 20, 21, 22, 23, 24, 25, 26, 27, 28, 29, 30, 31, 32, 33, 34, 35, 36, 37, 38, 39, 13, 40, 41, 42, 43, 44, 45, 46, 47, 48, 49, 50, 51, 52, 53, 54, 55, 56, 57, 58, 59, 60, 61, 7, 62, 63, 64, 65, 66, 67, 68, 69, 70, 71, 72, 73, 74, 75, 76, 77, 78, 79, 80, 81, 82, 83, 84, 85, 86, 87, 88, 89, 90, 91, 92, 93, 94, 95, 96, 97, 98, 99, 100, 101, 102, 103, 104, 105, 106, 107, 108, 109, 110, 111, 112, 113, 114, 115, 116, 117, 118, 119, 120, 121, 122, 123, 124, 125, 126, 127, 128, 129, 130, 131, 139, 140, 141, 142, 132, 133, 134, 135, 136, 137, 138, 143, 144] (by decide +kernel) (by decide +kernel)
set_option maxRecDepth 20000 in
theorem gX10_turn_X10_windChanges : GoodIn wsX10_turn (wsV RX10 114 RX10 yX10_windChanges wsX10_windChanges) := goodIn_app (goodIn_of _ (by decide +kernel)) ggX10_turn_X10_windChanges
theorem dX10_turn_0 : decode cX10_turn 0 = .ok (.aload_n 0, 1) := by decide +kernel
theorem dX10_turn_1 : decode cX10_turn 1 = .ok (.getfield 19, 3) := by decide +kernel
theorem dX10_turn_4 : decode cX10_turn 4 = .ok (.invokevirtual 152, 3) := by decide +kernel
theorem dX10_turn_7 : decode cX10_turn 7 = .ok (.ifCond .ne 6, 3) := by decide +kernel
theorem dX10_turn_10 : decode cX10_turn 10 = .ok (.bipush (-103), 2) := by decide +kernel
theorem dX10_turn_12 : decode cX10_turn 12 = .ok (.ireturn, 1) := by decide +kernel
theorem dX10_turn_13 : decode cX10_turn 13 = .ok (.aload_n 0, 1) := by decide +kernel
theorem dX10_turn_14 : decode cX10_turn 14 = .ok (.getfield 50, 3) := by decide +kernel
theorem dX10_turn_17 : decode cX10_turn 17 = .ok (.aload_n 0, 1) := by decide +kernel
theorem dX10_turn_18 : decode cX10_turn 18 = .ok (.getfield 50, 3) := by decide +kernel
theorem dX10_turn_21 : decode cX10_turn 21 = .ok (.getfield 170, 3) := by decide +kernel
theorem dX10_turn_24 : decode cX10_turn 24 = .ok (.ifCond .ne 7, 3) := by decide +kernel
theorem dX10_turn_27 : decode cX10_turn 27 = .ok (.iconst 1, 1) := by decide +kernel
theorem dX10_turn_28 : decode cX10_turn 28 = .ok (.goto 4, 3) := by decide +kernel
theorem dX10_turn_31 : decode cX10_turn 31 = .ok (.iconst 0, 1) := by decide +kernel
theorem dX10_turn_32 : decode cX10_turn 32 = .ok (.putfield 170, 3) := by decide +kernel
theorem dX10_turn_35 : decode cX10_turn 35 = .ok (.aload_n 0, 1) := by decide +kernel
theorem dX10_turn_36 : decode cX10_turn 36 = .ok (.invokevirtual 114, 3) := by decide +kernel
theorem dX10_turn_39 : decode cX10_turn 39 = .ok (.aload_n 0, 1) := by decide +kernel
theorem dX10_turn_40 : decode cX10_turn 40 = .ok (.getfield 50, 3) := by decide +kernel
theorem dX10_turn_43 : decode cX10_turn 43 = .ok (.getfield 170, 3) := by decide +kernel
theorem dX10_turn_46 : decode cX10_turn 46 = .ok (.ifCond .eq 7, 3) := by decide +kernel
theorem dX10_turn_49 : decode cX10_turn 49 = .ok (.iconst 1, 1) := by decide +kernel
theorem dX10_turn_50 : decode cX10_turn 50 = .ok (.goto 4, 3) := by decide +kernel
theorem dX10_turn_53 : decode cX10_turn 53 = .ok (.iconst 0, 1) := by decide +kernel
theorem dX10_turn_54 : decode cX10_turn 54 = .ok (.ireturn, 1) := by decide +kernel
set_option maxRecDepth 20000 in
theorem ggX10_man_X5_isRead : GoodIn wsX10_man wsX5_isRead := goodIn_r _ [11, 12, 50, 51, 52, 53, 54, 55, 56] (by decide +kernel) (by decide +kernel)
set_option maxRecDepth 20000 in
theorem gX10_man_X5_isRead : GoodIn wsX10_man (wsV RX10 152 RX5 yX5_isRead wsX5_isRead) := goodIn_app (goodIn_of _ (by decide +kernel)) ggX10_man_X5_isRead
set_option maxRecDepth 20000 in
theorem ggX10_man_X1_isKind : GoodIn wsX10_man wsX1_isKind := goodIn_r _ [16] (by decide +kernel) (by decide +kernel)
set_option maxRecDepth 20000 in
theorem gX10_man_X1_isKind : GoodIn wsX10_man (va_wsS RX10 174 yX1_isKind wsX1_isKind) := goodIn_app (goodIn_of _ (by decide +kernel)) ggX10_man_X1_isKind
set_option maxRecDepth 20000 in
theorem ggX10_man_X10_isKnot : GoodIn wsX10_man wsX10_isKnot := goodIn_r _ [20] (by decide +kernel) (by decide +kernel)
set_option maxRecDepth 20000 in
theorem gX10_man_X10_isKnot : GoodIn wsX10_man (va_wsS RX10 155 yX10_isKnot wsX10_isKnot) := goodIn_app (goodIn_of _ (by decide +kernel)) ggX10_man_X10_isKnot
set_option maxRecDepth 20000 in
theorem ggX10_man_X8_set : GoodIn wsX10_man wsX8_set := goodIn_r _ [25, 26, 57] (by decide +kernel) (by decide +kernel)
set_option maxRecDepth 20000 in
theorem gX10_man_X8_set : GoodIn wsX10_man (wsV RX10 180 RX8 yX8_set wsX8_set) := goodIn_app (goodIn_of _ (by decide +kernel)) ggX10_man_X8_set
theorem dX10_man_0 : decode cX10_man 0 = .ok (.aload_n 0, 1) := by decide +kernel
theorem dX10_man_1 : decode cX10_man 1 = .ok (.getfield 19, 3) := by decide +kernel
theorem dX10_man_4 : decode cX10_man 4 = .ok (.invokevirtual 152, 3) := by decide +kernel
theorem dX10_man_7 : decode cX10_man 7 = .ok (.ifCond .ne 6, 3) := by decide +kernel
theorem dX10_man_10 : decode cX10_man 10 = .ok (.bipush (-103), 2) := by decide +kernel
theorem dX10_man_12 : decode cX10_man 12 = .ok (.ireturn, 1) := by decide +kernel
theorem dX10_man_13 : decode cX10_man 13 = .ok (.iload_n 1, 1) := by decide +kernel
theorem dX10_man_14 : decode cX10_man 14 = .ok (.invokestatic 174, 3) := by decide +kernel
theorem dX10_man_17 : decode cX10_man 17 = .ok (.ifCond .ne 6, 3) := by decide +kernel
theorem dX10_man_20 : decode cX10_man 20 = .ok (.bipush (-102), 2) := by decide +kernel
theorem dX10_man_22 : decode cX10_man 22 = .ok (.ireturn, 1) := by decide +kernel
theorem dX10_man_23 : decode cX10_man 23 = .ok (.iload_n 2, 1) := by decide +kernel
theorem dX10_man_24 : decode cX10_man 24 = .ok (.invokestatic 155, 3) := by decide +kernel
theorem dX10_man_27 : decode cX10_man 27 = .ok (.ifCond .ne 6, 3) := by decide +kernel
theorem dX10_man_30 : decode cX10_man 30 = .ok (.bipush (-101), 2) := by decide +kernel
theorem dX10_man_32 : decode cX10_man 32 = .ok (.ireturn, 1) := by decide +kernel
theorem dX10_man_33 : decode cX10_man 33 = .ok (.aload_n 0, 1) := by decide +kernel
theorem dX10_man_34 : decode cX10_man 34 = .ok (.getfield 43, 3) := by decide +kernel
theorem dX10_man_37 : decode cX10_man 37 = .ok (.getfield 101, 3) := by decide +kernel
theorem dX10_man_40 : decode cX10_man 40 = .ok (.bipush 6, 2) := by decide +kernel
theorem dX10_man_42 : decode cX10_man 42 = .ok (.if_icmp .lt 6, 3) := by decide +kernel
theorem dX10_man_45 : decode cX10_man 45 = .ok (.bipush (-104), 2) := by decide +kernel
theorem dX10_man_47 : decode cX10_man 47 = .ok (.ireturn, 1) := by decide +kernel
theorem dX10_man_48 : decode cX10_man 48 = .ok (.aload_n 0, 1) := by decide +kernel
theorem dX10_man_49 : decode cX10_man 49 = .ok (.getfield 43, 3) := by decide +kernel
theorem dX10_man_52 : decode cX10_man 52 = .ok (.getfield 101, 3) := by decide +kernel
theorem dX10_man_55 : decode cX10_man 55 = .ok (.istore_n 3, 1) := by decide +kernel
theorem dX10_man_56 : decode cX10_man 56 = .ok (.aload_n 0, 1) := by decide +kernel
theorem dX10_man_57 : decode cX10_man 57 = .ok (.getfield 43, 3) := by decide +kernel
theorem dX10_man_60 : decode cX10_man 60 = .ok (.getfield 177, 3) := by decide +kernel
theorem dX10_man_63 : decode cX10_man 63 = .ok (.iload_n 3, 1) := by decide +kernel
theorem dX10_man_64 : decode cX10_man 64 = .ok (.iload_n 1, 1) := by decide +kernel
theorem dX10_man_65 : decode cX10_man 65 = .ok (.invokevirtual 180, 3) := by decide +kernel
theorem dX10_man_68 : decode cX10_man 68 = .ok (.aload_n 0, 1) := by decide +kernel
theorem dX10_man_69 : decode cX10_man 69 = .ok (.getfield 43, 3) := by decide +kernel
theorem dX10_man_72 : decode cX10_man 72 = .ok (.dup, 1) := by decide +kernel
theorem dX10_man_73 : decode cX10_man 73 = .ok (.getfield 101, 3) := by decide +kernel
theorem dX10_man_76 : decode cX10_man 76 = .ok (.iconst 1, 1) := by decide +kernel
theorem dX10_man_77 : decode cX10_man 77 = .ok (.iadd, 1) := by decide +kernel
theorem dX10_man_78 : decode cX10_man 78 = .ok (.putfield 101, 3) := by decide +kernel
theorem dX10_man_81 : decode cX10_man 81 = .ok (.aload_n 0, 1) := by decide +kernel
theorem dX10_man_82 : decode cX10_man 82 = .ok (.getfield 50, 3) := by decide +kernel
theorem dX10_man_85 : decode cX10_man 85 = .ok (.getfield 184, 3) := by decide +kernel
theorem dX10_man_88 : decode cX10_man 88 = .ok (.iload_n 3, 1) := by decide +kernel
theorem dX10_man_89 : decode cX10_man 89 = .ok (.iload_n 2, 1) := by decide +kernel
theorem dX10_man_90 : decode cX10_man 90 = .ok (.invokevirtual 180, 3) := by decide +kernel
theorem dX10_man_93 : decode cX10_man 93 = .ok (.iload_n 3, 1) := by decide +kernel
theorem dX10_man_94 : decode cX10_man 94 = .ok (.ireturn, 1) := by decide +kernel
set_option maxRecDepth 20000 in
theorem ggX10_about_X1_has : GoodIn wsX10_about wsX1_has := goodIn_r _ [10, 11, 43, 44] (by decide +kernel) (by decide +kernel)
set_option maxRecDepth 20000 in
theorem gX10_about_X1_has : GoodIn wsX10_about (wsV RX10 187 RX1 yX1_has wsX1_has) := goodIn_app (goodIn_of _ (by decide +kernel)) ggX10_about_X1_has
set_option maxRecDepth 20000 in
theorem ggX10_about_X8_get : GoodIn wsX10_about wsX8_get := goodIn_r _ [16, 17, 51] (by decide +kernel) (by decide +kernel)
set_option maxRecDepth 20000 in
theorem gX10_about_X8_get : GoodIn wsX10_about (wsV RX10 128 RX8 yX8_get wsX8_get) := goodIn_app (goodIn_of _ (by decide +kernel)) ggX10_about_X8_get
set_option maxRecDepth 20000 in
theorem ggX10_about_X10_bit : GoodIn wsX10_about wsX10_bit := goodIn_r _ [21] (by decide +kernel) (by decide +kernel)
set_option maxRecDepth 20000 in
theorem gX10_about_X10_bit : GoodIn wsX10_about (va_wsS RX10 142 yX10_bit wsX10_bit) := goodIn_app (goodIn_of _ (by decide +kernel)) ggX10_about_X10_bit
set_option maxRecDepth 20000 in
theorem ggX10_about_X1_bears : GoodIn wsX10_about wsX1_bears := goodIn_r _ [25, 26, 27, 13, 14, 15, 16, 17, 43, 44, 51] (by decide +kernel) (by decide +kernel)
set_option maxRecDepth 20000 in
theorem gX10_about_X1_bears : GoodIn wsX10_about (wsV RX10 193 RX1 yX1_bears wsX1_bears) := goodIn_app (goodIn_of _ (by decide +kernel)) ggX10_about_X1_bears
theorem dX10_about_0 : decode cX10_about 0 = .ok (.aload_n 0, 1) := by decide +kernel
theorem dX10_about_1 : decode cX10_about 1 = .ok (.getfield 43, 3) := by decide +kernel
theorem dX10_about_4 : decode cX10_about 4 = .ok (.iload_n 1, 1) := by decide +kernel
theorem dX10_about_5 : decode cX10_about 5 = .ok (.invokevirtual 187, 3) := by decide +kernel
theorem dX10_about_8 : decode cX10_about 8 = .ok (.ifCond .ne 6, 3) := by decide +kernel
theorem dX10_about_11 : decode cX10_about 11 = .ok (.bipush (-101), 2) := by decide +kernel
theorem dX10_about_13 : decode cX10_about 13 = .ok (.ireturn, 1) := by decide +kernel
theorem dX10_about_14 : decode cX10_about 14 = .ok (.iload_n 2, 1) := by decide +kernel
theorem dX10_about_15 : decode cX10_about 15 = .ok (.tableswitch 74 0 3 #[29, 41, 53, 65], 29) := by decide +kernel
theorem dX10_about_44 : decode cX10_about 44 = .ok (.aload_n 0, 1) := by decide +kernel
theorem dX10_about_45 : decode cX10_about 45 = .ok (.getfield 43, 3) := by decide +kernel
theorem dX10_about_48 : decode cX10_about 48 = .ok (.getfield 177, 3) := by decide +kernel
theorem dX10_about_51 : decode cX10_about 51 = .ok (.iload_n 1, 1) := by decide +kernel
theorem dX10_about_52 : decode cX10_about 52 = .ok (.invokevirtual 128, 3) := by decide +kernel
theorem dX10_about_55 : decode cX10_about 55 = .ok (.ireturn, 1) := by decide +kernel
theorem dX10_about_56 : decode cX10_about 56 = .ok (.aload_n 0, 1) := by decide +kernel
theorem dX10_about_57 : decode cX10_about 57 = .ok (.getfield 50, 3) := by decide +kernel
theorem dX10_about_60 : decode cX10_about 60 = .ok (.getfield 184, 3) := by decide +kernel
theorem dX10_about_63 : decode cX10_about 63 = .ok (.iload_n 1, 1) := by decide +kernel
theorem dX10_about_64 : decode cX10_about 64 = .ok (.invokevirtual 128, 3) := by decide +kernel
theorem dX10_about_67 : decode cX10_about 67 = .ok (.ireturn, 1) := by decide +kernel
theorem dX10_about_68 : decode cX10_about 68 = .ok (.aload_n 0, 1) := by decide +kernel
theorem dX10_about_69 : decode cX10_about 69 = .ok (.getfield 50, 3) := by decide +kernel
theorem dX10_about_72 : decode cX10_about 72 = .ok (.getfield 190, 3) := by decide +kernel
theorem dX10_about_75 : decode cX10_about 75 = .ok (.iload_n 1, 1) := by decide +kernel
theorem dX10_about_76 : decode cX10_about 76 = .ok (.invokestatic 142, 3) := by decide +kernel
theorem dX10_about_79 : decode cX10_about 79 = .ok (.ireturn, 1) := by decide +kernel
theorem dX10_about_80 : decode cX10_about 80 = .ok (.aload_n 0, 1) := by decide +kernel
theorem dX10_about_81 : decode cX10_about 81 = .ok (.getfield 43, 3) := by decide +kernel
theorem dX10_about_84 : decode cX10_about 84 = .ok (.iload_n 1, 1) := by decide +kernel
theorem dX10_about_85 : decode cX10_about 85 = .ok (.invokevirtual 193, 3) := by decide +kernel
theorem dX10_about_88 : decode cX10_about 88 = .ok (.ireturn, 1) := by decide +kernel
theorem dX10_about_89 : decode cX10_about 89 = .ok (.bipush (-102), 2) := by decide +kernel
theorem dX10_about_91 : decode cX10_about 91 = .ok (.ireturn, 1) := by decide +kernel
set_option maxRecDepth 20000 in
theorem ggX10_as_X1_has : GoodIn wsX10_as wsX1_has := goodIn_r _ [6, 7, 37, 38] (by decide +kernel) (by decide +kernel)
set_option maxRecDepth 20000 in
theorem gX10_as_X1_has : GoodIn wsX10_as (wsV RX10 187 RX1 yX1_has wsX1_has) := goodIn_app (goodIn_of _ (by decide +kernel)) ggX10_as_X1_has
set_option maxRecDepth 20000 in
theorem ggX10_as_X1_isKind : GoodIn wsX10_as wsX1_isKind := goodIn_r _ [10] (by decide +kernel) (by decide +kernel)
set_option maxRecDepth 20000 in
theorem gX10_as_X1_isKind : GoodIn wsX10_as (va_wsS RX10 174 yX1_isKind wsX1_isKind) := goodIn_app (goodIn_of _ (by decide +kernel)) ggX10_as_X1_isKind
set_option maxRecDepth 20000 in
theorem ggX10_as_X1_isOf : GoodIn wsX10_as wsX1_isOf := goodIn_r _ [14, 15, 16, 17, 18, 19, 20, 21, 37, 38, 39] (by decide +kernel) (by decide +kernel)
set_option maxRecDepth 20000 in
theorem gX10_as_X1_isOf : GoodIn wsX10_as (wsV RX10 196 RX1 yX1_isOf wsX1_isOf) := goodIn_app (goodIn_of _ (by decide +kernel)) ggX10_as_X1_isOf
theorem dX10_as_0 : decode cX10_as 0 = .ok (.aload_n 0, 1) := by decide +kernel
theorem dX10_as_1 : decode cX10_as 1 = .ok (.getfield 43, 3) := by decide +kernel
theorem dX10_as_4 : decode cX10_as 4 = .ok (.iload_n 1, 1) := by decide +kernel
theorem dX10_as_5 : decode cX10_as 5 = .ok (.invokevirtual 187, 3) := by decide +kernel
theorem dX10_as_8 : decode cX10_as 8 = .ok (.ifCond .ne 6, 3) := by decide +kernel
theorem dX10_as_11 : decode cX10_as 11 = .ok (.bipush (-101), 2) := by decide +kernel
theorem dX10_as_13 : decode cX10_as 13 = .ok (.ireturn, 1) := by decide +kernel
theorem dX10_as_14 : decode cX10_as 14 = .ok (.iload_n 2, 1) := by decide +kernel
theorem dX10_as_15 : decode cX10_as 15 = .ok (.invokestatic 174, 3) := by decide +kernel
theorem dX10_as_18 : decode cX10_as 18 = .ok (.ifCond .ne 6, 3) := by decide +kernel
theorem dX10_as_21 : decode cX10_as 21 = .ok (.bipush (-102), 2) := by decide +kernel
theorem dX10_as_23 : decode cX10_as 23 = .ok (.ireturn, 1) := by decide +kernel
theorem dX10_as_24 : decode cX10_as 24 = .ok (.aload_n 0, 1) := by decide +kernel
theorem dX10_as_25 : decode cX10_as 25 = .ok (.getfield 43, 3) := by decide +kernel
theorem dX10_as_28 : decode cX10_as 28 = .ok (.iload_n 1, 1) := by decide +kernel
theorem dX10_as_29 : decode cX10_as 29 = .ok (.iload_n 2, 1) := by decide +kernel
theorem dX10_as_30 : decode cX10_as 30 = .ok (.invokevirtual 196, 3) := by decide +kernel
theorem dX10_as_33 : decode cX10_as 33 = .ok (.ifCond .eq 7, 3) := by decide +kernel
theorem dX10_as_36 : decode cX10_as 36 = .ok (.iload_n 1, 1) := by decide +kernel
theorem dX10_as_37 : decode cX10_as 37 = .ok (.goto 4, 3) := by decide +kernel
theorem dX10_as_40 : decode cX10_as 40 = .ok (.iconst (-1), 1) := by decide +kernel
theorem dX10_as_41 : decode cX10_as 41 = .ok (.ireturn, 1) := by decide +kernel
set_option maxRecDepth 20000 in
theorem ggX10_walk_X1_has : GoodIn wsX10_walk wsX1_has := goodIn_r _ [11, 12, 71, 72] (by decide +kernel) (by decide +kernel)
set_option maxRecDepth 20000 in
theorem gX10_walk_X1_has : GoodIn wsX10_walk (wsV RX10 187 RX1 yX1_has wsX1_has) := goodIn_app (goodIn_of _ (by decide +kernel)) ggX10_walk_X1_has
set_option maxRecDepth 20000 in
theorem ggX10_walk_X5_hasGallery : GoodIn wsX10_walk wsX5_hasGallery := goodIn_r _ [17, 18, 73, 74, 75, 76, 77, 78, 79] (by decide +kernel) (by decide +kernel)
set_option maxRecDepth 20000 in
theorem gX10_walk_X5_hasGallery : GoodIn wsX10_walk (wsV RX10 120 RX5 yX5_hasGallery wsX5_hasGallery) := goodIn_app (goodIn_of _ (by decide +kernel)) ggX10_walk_X5_hasGallery
set_option maxRecDepth 20000 in
theorem ggX10_walk_X8_get : GoodIn wsX10_walk wsX8_get := goodIn_r _ [23, 24, 80] (by decide +kernel) (by decide +kernel)
set_option maxRecDepth 20000 in
theorem gX10_walk_X8_get : GoodIn wsX10_walk (wsV RX10 128 RX8 yX8_get wsX8_get) := goodIn_app (goodIn_of _ (by decide +kernel)) ggX10_walk_X8_get
set_option maxRecDepth 20000 in
theorem ggX10_walk_X10_bit : GoodIn wsX10_walk wsX10_bit := goodIn_r _ [28] (by decide +kernel) (by decide +kernel)
set_option maxRecDepth 20000 in
theorem gX10_walk_X10_bit : GoodIn wsX10_walk (va_wsS RX10 142 yX10_bit wsX10_bit) := goodIn_app (goodIn_of _ (by decide +kernel)) ggX10_walk_X10_bit
set_option maxRecDepth 20000 in
theorem ggX10_walk_X1_isOf : GoodIn wsX10_walk wsX1_isOf := goodIn_r _ [32, 33, 34, 20, 21, 22, 23, 24, 71, 72, 80] (by decide +kernel) (by decide +kernel)
set_option maxRecDepth 20000 in
theorem gX10_walk_X1_isOf : GoodIn wsX10_walk (wsV RX10 196 RX1 yX1_isOf wsX1_isOf) := goodIn_app (goodIn_of _ (by decide +kernel)) ggX10_walk_X1_isOf
set_option maxRecDepth 20000 in
theorem ggX10_walk_X5_isAt : GoodIn wsX10_walk wsX5_isAt := goodIn_r _ [38, 39, 40, 41, 20, 21, 22, 23, 24, 73, 74, 75, 76, 77, 78, 79, 80] (by decide +kernel) (by decide +kernel)
set_option maxRecDepth 20000 in
theorem gX10_walk_X5_isAt : GoodIn wsX10_walk (wsV RX10 200 RX5 yX5_isAt wsX5_isAt) := goodIn_app (goodIn_of _ (by decide +kernel)) ggX10_walk_X5_isAt
end
section
set_option maxRecDepth 20000 in
theorem ggX10_walk_X5_otherEnd : GoodIn wsX10_walk wsX5_otherEnd := goodIn_r _ [45, 39, 40, 41, 20, 21, 22, 23, 24, 73, 74, 75, 76, 77, 78, 79, 80] (by decide +kernel) (by decide +kernel)
set_option maxRecDepth 20000 in
theorem gX10_walk_X5_otherEnd : GoodIn wsX10_walk (wsV RX10 203 RX5 yX5_otherEnd wsX5_otherEnd) := goodIn_app (goodIn_of _ (by decide +kernel)) ggX10_walk_X5_otherEnd
set_option maxRecDepth 20000 in
theorem ggX10_walk_X8_set : GoodIn wsX10_walk wsX8_set := goodIn_r _ [49, 24, 80] (by decide +kernel) (by decide +kernel)
set_option maxRecDepth 20000 in
theorem gX10_walk_X8_set : GoodIn wsX10_walk (wsV RX10 180 RX8 yX8_set wsX8_set) := goodIn_app (goodIn_of _ (by decide +kernel)) ggX10_walk_X8_set
theorem dX10_walk_0 : decode cX10_walk 0 = .ok (.aload_n 0, 1) := by decide +kernel
theorem dX10_walk_1 : decode cX10_walk 1 = .ok (.getfield 43, 3) := by decide +kernel
theorem dX10_walk_4 : decode cX10_walk 4 = .ok (.iload_n 1, 1) := by decide +kernel
theorem dX10_walk_5 : decode cX10_walk 5 = .ok (.invokevirtual 187, 3) := by decide +kernel
theorem dX10_walk_8 : decode cX10_walk 8 = .ok (.ifCond .eq 14, 3) := by decide +kernel
theorem dX10_walk_11 : decode cX10_walk 11 = .ok (.aload_n 0, 1) := by decide +kernel
theorem dX10_walk_12 : decode cX10_walk 12 = .ok (.getfield 19, 3) := by decide +kernel
theorem dX10_walk_15 : decode cX10_walk 15 = .ok (.iload_n 2, 1) := by decide +kernel
theorem dX10_walk_16 : decode cX10_walk 16 = .ok (.invokevirtual 120, 3) := by decide +kernel
theorem dX10_walk_19 : decode cX10_walk 19 = .ok (.ifCond .ne 6, 3) := by decide +kernel
theorem dX10_walk_22 : decode cX10_walk 22 = .ok (.bipush (-101), 2) := by decide +kernel
theorem dX10_walk_24 : decode cX10_walk 24 = .ok (.ireturn, 1) := by decide +kernel
theorem dX10_walk_25 : decode cX10_walk 25 = .ok (.aload_n 0, 1) := by decide +kernel
theorem dX10_walk_26 : decode cX10_walk 26 = .ok (.getfield 50, 3) := by decide +kernel
theorem dX10_walk_29 : decode cX10_walk 29 = .ok (.getfield 184, 3) := by decide +kernel
theorem dX10_walk_32 : decode cX10_walk 32 = .ok (.iload_n 1, 1) := by decide +kernel
theorem dX10_walk_33 : decode cX10_walk 33 = .ok (.invokevirtual 128, 3) := by decide +kernel
theorem dX10_walk_36 : decode cX10_walk 36 = .ok (.istore_n 3, 1) := by decide +kernel
theorem dX10_walk_37 : decode cX10_walk 37 = .ok (.aload_n 0, 1) := by decide +kernel
theorem dX10_walk_38 : decode cX10_walk 38 = .ok (.getfield 50, 3) := by decide +kernel
theorem dX10_walk_41 : decode cX10_walk 41 = .ok (.getfield 146, 3) := by decide +kernel
theorem dX10_walk_44 : decode cX10_walk 44 = .ok (.iload_n 2, 1) := by decide +kernel
theorem dX10_walk_45 : decode cX10_walk 45 = .ok (.invokestatic 142, 3) := by decide +kernel
theorem dX10_walk_48 : decode cX10_walk 48 = .ok (.ifCond .ne 19, 3) := by decide +kernel
theorem dX10_walk_51 : decode cX10_walk 51 = .ok (.aload_n 0, 1) := by decide +kernel
theorem dX10_walk_52 : decode cX10_walk 52 = .ok (.getfield 43, 3) := by decide +kernel
theorem dX10_walk_55 : decode cX10_walk 55 = .ok (.iload_n 1, 1) := by decide +kernel
theorem dX10_walk_56 : decode cX10_walk 56 = .ok (.iconst 3, 1) := by decide +kernel
theorem dX10_walk_57 : decode cX10_walk 57 = .ok (.invokevirtual 196, 3) := by decide +kernel
theorem dX10_walk_60 : decode cX10_walk 60 = .ok (.ifCond .ne 7, 3) := by decide +kernel
theorem dX10_walk_63 : decode cX10_walk 63 = .ok (.iconst 1, 1) := by decide +kernel
theorem dX10_walk_64 : decode cX10_walk 64 = .ok (.goto 4, 3) := by decide +kernel
theorem dX10_walk_67 : decode cX10_walk 67 = .ok (.iconst 0, 1) := by decide +kernel
theorem dX10_walk_68 : decode cX10_walk 68 = .ok (.istore 4, 2) := by decide +kernel
theorem dX10_walk_70 : decode cX10_walk 70 = .ok (.aload_n 0, 1) := by decide +kernel
theorem dX10_walk_71 : decode cX10_walk 71 = .ok (.getfield 50, 3) := by decide +kernel
theorem dX10_walk_74 : decode cX10_walk 74 = .ok (.getfield 190, 3) := by decide +kernel
theorem dX10_walk_77 : decode cX10_walk 77 = .ok (.iload_n 1, 1) := by decide +kernel
theorem dX10_walk_78 : decode cX10_walk 78 = .ok (.invokestatic 142, 3) := by decide +kernel
theorem dX10_walk_81 : decode cX10_walk 81 = .ok (.iconst 1, 1) := by decide +kernel
theorem dX10_walk_82 : decode cX10_walk 82 = .ok (.if_icmp .eq 20, 3) := by decide +kernel
theorem dX10_walk_85 : decode cX10_walk 85 = .ok (.aload_n 0, 1) := by decide +kernel
theorem dX10_walk_86 : decode cX10_walk 86 = .ok (.getfield 19, 3) := by decide +kernel
theorem dX10_walk_89 : decode cX10_walk 89 = .ok (.iload_n 2, 1) := by decide +kernel
theorem dX10_walk_90 : decode cX10_walk 90 = .ok (.iload_n 3, 1) := by decide +kernel
theorem dX10_walk_91 : decode cX10_walk 91 = .ok (.invokevirtual 200, 3) := by decide +kernel
theorem dX10_walk_94 : decode cX10_walk 94 = .ok (.ifCond .eq 8, 3) := by decide +kernel
theorem dX10_walk_97 : decode cX10_walk 97 = .ok (.iload 4, 2) := by decide +kernel
theorem dX10_walk_99 : decode cX10_walk 99 = .ok (.ifCond .eq 6, 3) := by decide +kernel
theorem dX10_walk_102 : decode cX10_walk 102 = .ok (.bipush (-103), 2) := by decide +kernel
theorem dX10_walk_104 : decode cX10_walk 104 = .ok (.ireturn, 1) := by decide +kernel
theorem dX10_walk_105 : decode cX10_walk 105 = .ok (.aload_n 0, 1) := by decide +kernel
theorem dX10_walk_106 : decode cX10_walk 106 = .ok (.getfield 19, 3) := by decide +kernel
theorem dX10_walk_109 : decode cX10_walk 109 = .ok (.iload_n 2, 1) := by decide +kernel
theorem dX10_walk_110 : decode cX10_walk 110 = .ok (.iload_n 3, 1) := by decide +kernel
theorem dX10_walk_111 : decode cX10_walk 111 = .ok (.invokevirtual 203, 3) := by decide +kernel
theorem dX10_walk_114 : decode cX10_walk 114 = .ok (.istore 5, 2) := by decide +kernel
theorem dX10_walk_116 : decode cX10_walk 116 = .ok (.aload_n 0, 1) := by decide +kernel
theorem dX10_walk_117 : decode cX10_walk 117 = .ok (.getfield 50, 3) := by decide +kernel
theorem dX10_walk_120 : decode cX10_walk 120 = .ok (.getfield 184, 3) := by decide +kernel
theorem dX10_walk_123 : decode cX10_walk 123 = .ok (.iload_n 1, 1) := by decide +kernel
theorem dX10_walk_124 : decode cX10_walk 124 = .ok (.iload 5, 2) := by decide +kernel
theorem dX10_walk_126 : decode cX10_walk 126 = .ok (.invokevirtual 180, 3) := by decide +kernel
theorem dX10_walk_129 : decode cX10_walk 129 = .ok (.iload 5, 2) := by decide +kernel
theorem dX10_walk_131 : decode cX10_walk 131 = .ok (.ireturn, 1) := by decide +kernel
set_option maxRecDepth 20000 in
theorem ggX10_minutes_X5_isRead : GoodIn wsX10_minutes wsX5_isRead := goodIn_r _ [11, 12, 79, 80, 81, 82, 83, 84, 85] (by decide +kernel) (by decide +kernel)
set_option maxRecDepth 20000 in
theorem gX10_minutes_X5_isRead : GoodIn wsX10_minutes (wsV RX10 152 RX5 yX5_isRead wsX5_isRead) := goodIn_app (goodIn_of _ (by decide +kernel)) ggX10_minutes_X5_isRead
set_option maxRecDepth 20000 in
theorem ggX10_minutes_J6_bitCount_0f7a4 : GoodIn wsX10_minutes wsJ6_bitCount_0f7a4 := goodIn_r _ [16, 17, 18, 19] (by decide +kernel) (by decide +kernel)
set_option maxRecDepth 20000 in
theorem gX10_minutes_J6_bitCount_0f7a4 : GoodIn wsX10_minutes (va_wsS RX10 206 yJ6_bitCount_0f7a4 wsJ6_bitCount_0f7a4) := goodIn_app (goodIn_of _ (by decide +kernel)) ggX10_minutes_J6_bitCount_0f7a4
set_option maxRecDepth 20000 in
theorem ggX10_minutes_X3_passMinute : GoodIn wsX10_minutes wsX3_passMinute := goodIn_r _ [24, 25, 26, 27, 28, 29, 30, 31, 32, 33, 34, 35, 36, 37, 38, 39, 40, 41, 42, 43, 44, 45, 46, 47, 48, 49, 50, 51, 52, 53, 69, 70, 71, 72, 73, 74, 86, 87, 88] (by decide +kernel) (by decide +kernel)
set_option maxRecDepth 20000 in
theorem gX10_minutes_X3_passMinute : GoodIn wsX10_minutes (wsV RX10 211 RX3 yX3_passMinute wsX3_passMinute) := goodIn_app (goodIn_of _ (by decide +kernel)) ggX10_minutes_X3_passMinute
theorem dX10_minutes_0 : decode cX10_minutes 0 = .ok (.iload_n 1, 1) := by decide +kernel
theorem dX10_minutes_1 : decode cX10_minutes 1 = .ok (.iconst 1, 1) := by decide +kernel
theorem dX10_minutes_2 : decode cX10_minutes 2 = .ok (.if_icmp .lt 9, 3) := by decide +kernel
theorem dX10_minutes_5 : decode cX10_minutes 5 = .ok (.iload_n 1, 1) := by decide +kernel
theorem dX10_minutes_6 : decode cX10_minutes 6 = .ok (.bipush 60, 2) := by decide +kernel
theorem dX10_minutes_8 : decode cX10_minutes 8 = .ok (.if_icmp .le 6, 3) := by decide +kernel
theorem dX10_minutes_11 : decode cX10_minutes 11 = .ok (.bipush (-102), 2) := by decide +kernel
theorem dX10_minutes_13 : decode cX10_minutes 13 = .ok (.ireturn, 1) := by decide +kernel
theorem dX10_minutes_14 : decode cX10_minutes 14 = .ok (.aload_n 0, 1) := by decide +kernel
theorem dX10_minutes_15 : decode cX10_minutes 15 = .ok (.getfield 19, 3) := by decide +kernel
theorem dX10_minutes_18 : decode cX10_minutes 18 = .ok (.invokevirtual 152, 3) := by decide +kernel
theorem dX10_minutes_21 : decode cX10_minutes 21 = .ok (.ifCond .ne 6, 3) := by decide +kernel
theorem dX10_minutes_24 : decode cX10_minutes 24 = .ok (.bipush (-103), 2) := by decide +kernel
theorem dX10_minutes_26 : decode cX10_minutes 26 = .ok (.ireturn, 1) := by decide +kernel
theorem dX10_minutes_27 : decode cX10_minutes 27 = .ok (.aload_n 0, 1) := by decide +kernel
theorem dX10_minutes_28 : decode cX10_minutes 28 = .ok (.getfield 50, 3) := by decide +kernel
theorem dX10_minutes_31 : decode cX10_minutes 31 = .ok (.getfield 190, 3) := by decide +kernel
theorem dX10_minutes_34 : decode cX10_minutes 34 = .ok (.invokestatic 206, 3) := by decide +kernel
theorem dX10_minutes_37 : decode cX10_minutes 37 = .ok (.istore_n 2, 1) := by decide +kernel
theorem dX10_minutes_38 : decode cX10_minutes 38 = .ok (.iconst 0, 1) := by decide +kernel
theorem dX10_minutes_39 : decode cX10_minutes 39 = .ok (.istore_n 3, 1) := by decide +kernel
theorem dX10_minutes_40 : decode cX10_minutes 40 = .ok (.iload_n 3, 1) := by decide +kernel
theorem dX10_minutes_41 : decode cX10_minutes 41 = .ok (.iload_n 1, 1) := by decide +kernel
theorem dX10_minutes_42 : decode cX10_minutes 42 = .ok (.if_icmp .ge 27, 3) := by decide +kernel
theorem dX10_minutes_45 : decode cX10_minutes 45 = .ok (.aload_n 0, 1) := by decide +kernel
theorem dX10_minutes_46 : decode cX10_minutes 46 = .ok (.getfield 50, 3) := by decide +kernel
theorem dX10_minutes_49 : decode cX10_minutes 49 = .ok (.aload_n 0, 1) := by decide +kernel
theorem dX10_minutes_50 : decode cX10_minutes 50 = .ok (.getfield 43, 3) := by decide +kernel
theorem dX10_minutes_53 : decode cX10_minutes 53 = .ok (.aload_n 0, 1) := by decide +kernel
theorem dX10_minutes_54 : decode cX10_minutes 54 = .ok (.getfield 26, 3) := by decide +kernel
theorem dX10_minutes_57 : decode cX10_minutes 57 = .ok (.getfield 164, 3) := by decide +kernel
theorem dX10_minutes_60 : decode cX10_minutes 60 = .ok (.invokevirtual 211, 3) := by decide +kernel
theorem dX10_minutes_63 : decode cX10_minutes 63 = .ok (.iinc 3 1, 3) := by decide +kernel
theorem dX10_minutes_66 : decode cX10_minutes 66 = .ok (.goto (-26), 3) := by decide +kernel
theorem dX10_minutes_69 : decode cX10_minutes 69 = .ok (.aload_n 0, 1) := by decide +kernel
theorem dX10_minutes_70 : decode cX10_minutes 70 = .ok (.getfield 50, 3) := by decide +kernel
theorem dX10_minutes_73 : decode cX10_minutes 73 = .ok (.getfield 190, 3) := by decide +kernel
theorem dX10_minutes_76 : decode cX10_minutes 76 = .ok (.invokestatic 206, 3) := by decide +kernel
theorem dX10_minutes_79 : decode cX10_minutes 79 = .ok (.iload_n 2, 1) := by decide +kernel
theorem dX10_minutes_80 : decode cX10_minutes 80 = .ok (.isub, 1) := by decide +kernel
theorem dX10_minutes_81 : decode cX10_minutes 81 = .ok (.ireturn, 1) := by decide +kernel
set_option maxRecDepth 20000 in
theorem ggX10_smelt_X5_isRead : GoodIn wsX10_smelt wsX5_isRead := goodIn_r _ [7, 8, 40, 41, 42, 43, 44, 45, 46] (by decide +kernel) (by decide +kernel)
set_option maxRecDepth 20000 in
theorem gX10_smelt_X5_isRead : GoodIn wsX10_smelt (wsV RX10 152 RX5 yX5_isRead wsX5_isRead) := goodIn_app (goodIn_of _ (by decide +kernel)) ggX10_smelt_X5_isRead
set_option maxRecDepth 20000 in
theorem ggX10_smelt_X10_isKnot : GoodIn wsX10_smelt wsX10_isKnot := goodIn_r _ [12] (by decide +kernel) (by decide +kernel)
set_option maxRecDepth 20000 in
theorem gX10_smelt_X10_isKnot : GoodIn wsX10_smelt (va_wsS RX10 155 yX10_isKnot wsX10_isKnot) := goodIn_app (goodIn_of _ (by decide +kernel)) ggX10_smelt_X10_isKnot
set_option maxRecDepth 20000 in
theorem ggX10_smelt_X9_between : GoodIn wsX10_smelt wsX9_between := goodIn_r _ [17, 18, 19, 20, 21, 22, 23, 24, 47, 48] (by decide +kernel) (by decide +kernel)
set_option maxRecDepth 20000 in
theorem gX10_smelt_X9_between : GoodIn wsX10_smelt (wsV RX10 215 RX9 yX9_between wsX9_between) := goodIn_app (goodIn_of _ (by decide +kernel)) ggX10_smelt_X9_between
theorem dX10_smelt_0 : decode cX10_smelt 0 = .ok (.aload_n 0, 1) := by decide +kernel
theorem dX10_smelt_1 : decode cX10_smelt 1 = .ok (.getfield 19, 3) := by decide +kernel
theorem dX10_smelt_4 : decode cX10_smelt 4 = .ok (.invokevirtual 152, 3) := by decide +kernel
theorem dX10_smelt_7 : decode cX10_smelt 7 = .ok (.ifCond .ne 6, 3) := by decide +kernel
theorem dX10_smelt_10 : decode cX10_smelt 10 = .ok (.bipush (-103), 2) := by decide +kernel
theorem dX10_smelt_12 : decode cX10_smelt 12 = .ok (.ireturn, 1) := by decide +kernel
theorem dX10_smelt_13 : decode cX10_smelt 13 = .ok (.iload_n 1, 1) := by decide +kernel
theorem dX10_smelt_14 : decode cX10_smelt 14 = .ok (.invokestatic 155, 3) := by decide +kernel
theorem dX10_smelt_17 : decode cX10_smelt 17 = .ok (.ifCond .eq 10, 3) := by decide +kernel
theorem dX10_smelt_20 : decode cX10_smelt 20 = .ok (.iload_n 2, 1) := by decide +kernel
theorem dX10_smelt_21 : decode cX10_smelt 21 = .ok (.invokestatic 155, 3) := by decide +kernel
theorem dX10_smelt_24 : decode cX10_smelt 24 = .ok (.ifCond .ne 6, 3) := by decide +kernel
theorem dX10_smelt_27 : decode cX10_smelt 27 = .ok (.bipush (-101), 2) := by decide +kernel
theorem dX10_smelt_29 : decode cX10_smelt 29 = .ok (.ireturn, 1) := by decide +kernel
theorem dX10_smelt_30 : decode cX10_smelt 30 = .ok (.aload_n 0, 1) := by decide +kernel
theorem dX10_smelt_31 : decode cX10_smelt 31 = .ok (.getfield 36, 3) := by decide +kernel
theorem dX10_smelt_34 : decode cX10_smelt 34 = .ok (.iload_n 1, 1) := by decide +kernel
theorem dX10_smelt_35 : decode cX10_smelt 35 = .ok (.iload_n 2, 1) := by decide +kernel
theorem dX10_smelt_36 : decode cX10_smelt 36 = .ok (.invokevirtual 215, 3) := by decide +kernel
theorem dX10_smelt_39 : decode cX10_smelt 39 = .ok (.ireturn, 1) := by decide +kernel
set_option maxRecDepth 20000 in
theorem ggX10_wayOut_X5_isRead : GoodIn wsX10_wayOut wsX5_isRead := goodIn_r _ [7, 8, 55, 56, 57, 58, 59, 60, 61] (by decide +kernel) (by decide +kernel)
set_option maxRecDepth 20000 in
theorem gX10_wayOut_X5_isRead : GoodIn wsX10_wayOut (wsV RX10 152 RX5 yX5_isRead wsX5_isRead) := goodIn_app (goodIn_of _ (by decide +kernel)) ggX10_wayOut_X5_isRead
set_option maxRecDepth 20000 in
theorem ggX10_wayOut_X10_isKnot : GoodIn wsX10_wayOut wsX10_isKnot := goodIn_r _ [12] (by decide +kernel) (by decide +kernel)
set_option maxRecDepth 20000 in
theorem gX10_wayOut_X10_isKnot : GoodIn wsX10_wayOut (va_wsS RX10 155 yX10_isKnot wsX10_isKnot) := goodIn_app (goodIn_of _ (by decide +kernel)) ggX10_wayOut_X10_isKnot
set_option maxRecDepth 20000 in
theorem ggX10_wayOut_X5_isShaft : GoodIn wsX10_wayOut wsX5_isShaft := goodIn_r _ [16, 17, 18, 11, 19, 55, 56, 57, 58, 59, 60, 61] (by decide +kernel) (by decide +kernel)
set_option maxRecDepth 20000 in
theorem gX10_wayOut_X5_isShaft : GoodIn wsX10_wayOut (wsV RX10 227 RX5 yX5_isShaft wsX5_isShaft) := goodIn_app (goodIn_of _ (by decide +kernel)) ggX10_wayOut_X5_isShaft
set_option maxRecDepth 20000 in
theorem ggX10_wayOut_X0_firstInto : GoodIn wsX10_wayOut wsX0_firstInto := goodIn_r _ [24, 25, 26, 27, 28, 29, 30, 31, 32, 55, 56, 57, 58, 59, 60, 61, 62, 63, 64, 65, 66] (by decide +kernel) (by decide +kernel)
set_option maxRecDepth 20000 in
theorem gX10_wayOut_X0_firstInto : GoodIn wsX10_wayOut (wsV RX10 230 RX0 yX0_firstInto wsX0_firstInto) := goodIn_app (goodIn_of _ (by decide +kernel)) ggX10_wayOut_X0_firstInto
set_option maxRecDepth 20000 in
theorem ggX10_wayOut_X5_otherEnd : GoodIn wsX10_wayOut wsX5_otherEnd := goodIn_r _ [36, 37, 38, 39, 28, 29, 30, 31, 32, 55, 56, 57, 58, 59, 60, 61, 66] (by decide +kernel) (by decide +kernel)
set_option maxRecDepth 20000 in
theorem gX10_wayOut_X5_otherEnd : GoodIn wsX10_wayOut (wsV RX10 203 RX5 yX5_otherEnd wsX5_otherEnd) := goodIn_app (goodIn_of _ (by decide +kernel)) ggX10_wayOut_X5_otherEnd
theorem dX10_wayOut_0 : decode cX10_wayOut 0 = .ok (.aload_n 0, 1) := by decide +kernel
theorem dX10_wayOut_1 : decode cX10_wayOut 1 = .ok (.getfield 19, 3) := by decide +kernel
theorem dX10_wayOut_4 : decode cX10_wayOut 4 = .ok (.invokevirtual 152, 3) := by decide +kernel
theorem dX10_wayOut_7 : decode cX10_wayOut 7 = .ok (.ifCond .ne 6, 3) := by decide +kernel
theorem dX10_wayOut_10 : decode cX10_wayOut 10 = .ok (.bipush (-103), 2) := by decide +kernel
theorem dX10_wayOut_12 : decode cX10_wayOut 12 = .ok (.ireturn, 1) := by decide +kernel
theorem dX10_wayOut_13 : decode cX10_wayOut 13 = .ok (.iload_n 1, 1) := by decide +kernel
theorem dX10_wayOut_14 : decode cX10_wayOut 14 = .ok (.invokestatic 155, 3) := by decide +kernel
theorem dX10_wayOut_17 : decode cX10_wayOut 17 = .ok (.ifCond .ne 6, 3) := by decide +kernel
theorem dX10_wayOut_20 : decode cX10_wayOut 20 = .ok (.bipush (-101), 2) := by decide +kernel
theorem dX10_wayOut_22 : decode cX10_wayOut 22 = .ok (.ireturn, 1) := by decide +kernel
theorem dX10_wayOut_23 : decode cX10_wayOut 23 = .ok (.iload_n 1, 1) := by decide +kernel
theorem dX10_wayOut_24 : decode cX10_wayOut 24 = .ok (.istore_n 2, 1) := by decide +kernel
theorem dX10_wayOut_25 : decode cX10_wayOut 25 = .ok (.iconst 0, 1) := by decide +kernel
theorem dX10_wayOut_26 : decode cX10_wayOut 26 = .ok (.istore_n 3, 1) := by decide +kernel
theorem dX10_wayOut_27 : decode cX10_wayOut 27 = .ok (.iload_n 3, 1) := by decide +kernel
theorem dX10_wayOut_28 : decode cX10_wayOut 28 = .ok (.bipush 7, 2) := by decide +kernel
theorem dX10_wayOut_30 : decode cX10_wayOut 30 = .ok (.if_icmp .ge 55, 3) := by decide +kernel
theorem dX10_wayOut_33 : decode cX10_wayOut 33 = .ok (.aload_n 0, 1) := by decide +kernel
theorem dX10_wayOut_34 : decode cX10_wayOut 34 = .ok (.getfield 19, 3) := by decide +kernel
theorem dX10_wayOut_37 : decode cX10_wayOut 37 = .ok (.iload_n 2, 1) := by decide +kernel
theorem dX10_wayOut_38 : decode cX10_wayOut 38 = .ok (.invokevirtual 227, 3) := by decide +kernel
theorem dX10_wayOut_41 : decode cX10_wayOut 41 = .ok (.ifCond .eq 5, 3) := by decide +kernel
theorem dX10_wayOut_44 : decode cX10_wayOut 44 = .ok (.iload_n 3, 1) := by decide +kernel
theorem dX10_wayOut_45 : decode cX10_wayOut 45 = .ok (.ireturn, 1) := by decide +kernel
theorem dX10_wayOut_46 : decode cX10_wayOut 46 = .ok (.aload_n 0, 1) := by decide +kernel
theorem dX10_wayOut_47 : decode cX10_wayOut 47 = .ok (.getfield 26, 3) := by decide +kernel
theorem dX10_wayOut_50 : decode cX10_wayOut 50 = .ok (.aload_n 0, 1) := by decide +kernel
theorem dX10_wayOut_51 : decode cX10_wayOut 51 = .ok (.getfield 19, 3) := by decide +kernel
theorem dX10_wayOut_54 : decode cX10_wayOut 54 = .ok (.iload_n 2, 1) := by decide +kernel
theorem dX10_wayOut_55 : decode cX10_wayOut 55 = .ok (.invokevirtual 230, 3) := by decide +kernel
theorem dX10_wayOut_58 : decode cX10_wayOut 58 = .ok (.istore 4, 2) := by decide +kernel
theorem dX10_wayOut_60 : decode cX10_wayOut 60 = .ok (.iload 4, 2) := by decide +kernel
theorem dX10_wayOut_62 : decode cX10_wayOut 62 = .ok (.iconst (-1), 1) := by decide +kernel
theorem dX10_wayOut_63 : decode cX10_wayOut 63 = .ok (.if_icmp .ne 5, 3) := by decide +kernel
theorem dX10_wayOut_66 : decode cX10_wayOut 66 = .ok (.iconst (-1), 1) := by decide +kernel
theorem dX10_wayOut_67 : decode cX10_wayOut 67 = .ok (.ireturn, 1) := by decide +kernel
theorem dX10_wayOut_68 : decode cX10_wayOut 68 = .ok (.aload_n 0, 1) := by decide +kernel
theorem dX10_wayOut_69 : decode cX10_wayOut 69 = .ok (.getfield 19, 3) := by decide +kernel
theorem dX10_wayOut_72 : decode cX10_wayOut 72 = .ok (.iload 4, 2) := by decide +kernel
theorem dX10_wayOut_74 : decode cX10_wayOut 74 = .ok (.iload_n 2, 1) := by decide +kernel
theorem dX10_wayOut_75 : decode cX10_wayOut 75 = .ok (.invokevirtual 203, 3) := by decide +kernel
theorem dX10_wayOut_78 : decode cX10_wayOut 78 = .ok (.istore_n 2, 1) := by decide +kernel
theorem dX10_wayOut_79 : decode cX10_wayOut 79 = .ok (.iinc 3 1, 3) := by decide +kernel
theorem dX10_wayOut_82 : decode cX10_wayOut 82 = .ok (.goto (-55), 3) := by decide +kernel
theorem dX10_wayOut_85 : decode cX10_wayOut 85 = .ok (.iconst (-1), 1) := by decide +kernel
theorem dX10_wayOut_86 : decode cX10_wayOut 86 = .ok (.ireturn, 1) := by decide +kernel
set_option maxRecDepth 20000 in
theorem ggX10_walks_X5_isRead : GoodIn wsX10_walks wsX5_isRead := goodIn_r _ [16, 17, 146, 147, 148, 149, 150, 151, 152] (by decide +kernel) (by decide +kernel)
set_option maxRecDepth 20000 in
theorem gX10_walks_X5_isRead : GoodIn wsX10_walks (wsV RX10 152 RX5 yX5_isRead wsX5_isRead) := goodIn_app (goodIn_of _ (by decide +kernel)) ggX10_walks_X5_isRead
set_option maxRecDepth 20000 in
theorem ggX10_walks_X3_copyFrom : GoodIn wsX10_walks wsX3_copyFrom := goodIn_r _ [22, 23, 24, 25, 26, 27, 28, 29, 30, 31, 32, 33, 34, 35, 36, 37, 38, 140, 141, 142, 143, 144, 145, 153] (by decide +kernel) (by decide +kernel)
set_option maxRecDepth 20000 in
theorem gX10_walks_X3_copyFrom : GoodIn wsX10_walks (wsV RX10 258 RX3 yX3_copyFrom wsX3_copyFrom) := goodIn_app (goodIn_of _ (by decide +kernel)) ggX10_walks_X3_copyFrom
set_option maxRecDepth 20000 in
theorem ggX10_walks_X10_dreamWalk : GoodIn wsX10_walks wsX10_dreamWalk := goodIn_r _ [43, 6, 44, 4, 2, 9, 10, 1, 45, 46, 47, 48, 49, 50, 51, 52, 53, 54, 55, 56, 57, 42, 58, 59, 36, 37, 32, 38, 34, 60, 61, 62, 15, 63, 17, 64, 65, 66, 67, 68, 69, 70, 71, 72, 73, 74, 75, 76, 77, 78, 79, 80, 81, 82, 83, 84, 85, 86, 87, 88, 89, 90, 91, 92, 120, 121, 122, 123, 124, 125, 126, 127, 128, 129, 130, 131, 132, 133, 134, 154, 155, 140, 141, 142, 143, 144, 145, 135, 153, 146, 147, 148, 149, 150, 151, 152] (by decide +kernel) (by decide +kernel)
set_option maxRecDepth 20000 in
theorem gX10_walks_X10_dreamWalk : GoodIn wsX10_walks (wsV RX10 265 RX10 yX10_dreamWalk wsX10_dreamWalk) := goodIn_app (goodIn_of _ (by decide +kernel)) ggX10_walks_X10_dreamWalk
set_option maxRecDepth 20000 in
theorem ggX10_walks_X3_passMinute : GoodIn wsX10_walks wsX3_passMinute := goodIn_r _ [96, 25, 97, 98, 99, 100, 101, 26, 27, 28, 57, 42, 58, 102, 36, 37, 32, 38, 34, 103, 90, 91, 92, 104, 105, 106, 107, 108, 109, 110, 140, 141, 142, 143, 144, 145, 154, 155, 153] (by decide +kernel) (by decide +kernel)
set_option maxRecDepth 20000 in
theorem gX10_walks_X3_passMinute : GoodIn wsX10_walks (wsV RX10 211 RX3 yX3_passMinute wsX3_passMinute) := goodIn_app (goodIn_of _ (by decide +kernel)) ggX10_walks_X3_passMinute
set_option maxRecDepth 20000 in
theorem ggX10_walks_J6_bitCount_0f7a4 : GoodIn wsX10_walks wsJ6_bitCount_0f7a4 := goodIn_r _ [74, 75, 76, 77] (by decide +kernel) (by decide +kernel)
set_option maxRecDepth 20000 in
theorem gX10_walks_J6_bitCount_0f7a4 : GoodIn wsX10_walks (va_wsS RX10 206 yJ6_bitCount_0f7a4 wsJ6_bitCount_0f7a4) := goodIn_app (goodIn_of _ (by decide +kernel)) ggX10_walks_J6_bitCount_0f7a4
set_option maxRecDepth 20000 in
theorem ggX10_walks_X1_has : GoodIn wsX10_walks wsX1_has := goodIn_r _ [114, 115, 154, 155] (by decide +kernel) (by decide +kernel)
set_option maxRecDepth 20000 in
theorem gX10_walks_X1_has : GoodIn wsX10_walks (wsV RX10 187 RX1 yX1_has wsX1_has) := goodIn_app (goodIn_of _ (by decide +kernel)) ggX10_walks_X1_has
set_option maxRecDepth 20000 in
theorem ggX10_walks_X8_get : GoodIn wsX10_walks wsX8_get := goodIn_r _ [38, 34, 153] (by decide +kernel) (by decide +kernel)
set_option maxRecDepth 20000 in
theorem gX10_walks_X8_get : GoodIn wsX10_walks (wsV RX10 128 RX8 yX8_get wsX8_get) := goodIn_app (goodIn_of _ (by decide +kernel)) ggX10_walks_X8_get
set_option maxRecDepth 20000 in
theorem ggX10_walks_X8_sum : GoodIn wsX10_walks wsX8_sum := goodIn_r _ [119, 34, 153] (by decide +kernel) (by decide +kernel)
set_option maxRecDepth 20000 in
theorem gX10_walks_X8_sum : GoodIn wsX10_walks (wsV RX10 268 RX8 yX8_sum wsX8_sum) := goodIn_app (goodIn_of _ (by decide +kernel)) ggX10_walks_X8_sum
theorem dX10_walks_0 : decode cX10_walks 0 = .ok (.aload_n 0, 1) := by decide +kernel
theorem dX10_walks_1 : decode cX10_walks 1 = .ok (.getfield 19, 3) := by decide +kernel
theorem dX10_walks_4 : decode cX10_walks 4 = .ok (.invokevirtual 152, 3) := by decide +kernel
theorem dX10_walks_7 : decode cX10_walks 7 = .ok (.ifCond .ne 6, 3) := by decide +kernel
theorem dX10_walks_10 : decode cX10_walks 10 = .ok (.bipush (-103), 2) := by decide +kernel
theorem dX10_walks_12 : decode cX10_walks 12 = .ok (.ireturn, 1) := by decide +kernel
theorem dX10_walks_13 : decode cX10_walks 13 = .ok (.iload_n 1, 1) := by decide +kernel
theorem dX10_walks_14 : decode cX10_walks 14 = .ok (.iconst 1, 1) := by decide +kernel
theorem dX10_walks_15 : decode cX10_walks 15 = .ok (.if_icmp .lt 22, 3) := by decide +kernel
theorem dX10_walks_18 : decode cX10_walks 18 = .ok (.iload_n 1, 1) := by decide +kernel
theorem dX10_walks_19 : decode cX10_walks 19 = .ok (.bipush 60, 2) := by decide +kernel
theorem dX10_walks_21 : decode cX10_walks 21 = .ok (.if_icmp .gt 16, 3) := by decide +kernel
theorem dX10_walks_24 : decode cX10_walks 24 = .ok (.iload_n 2, 1) := by decide +kernel
theorem dX10_walks_25 : decode cX10_walks 25 = .ok (.ifCond .lt 12, 3) := by decide +kernel
theorem dX10_walks_28 : decode cX10_walks 28 = .ok (.iload_n 3, 1) := by decide +kernel
theorem dX10_walks_29 : decode cX10_walks 29 = .ok (.ifCond .lt 8, 3) := by decide +kernel
theorem dX10_walks_32 : decode cX10_walks 32 = .ok (.iload_n 3, 1) := by decide +kernel
theorem dX10_walks_33 : decode cX10_walks 33 = .ok (.iconst 3, 1) := by decide +kernel
theorem dX10_walks_34 : decode cX10_walks 34 = .ok (.if_icmp .le 6, 3) := by decide +kernel
theorem dX10_walks_37 : decode cX10_walks 37 = .ok (.bipush (-102), 2) := by decide +kernel
theorem dX10_walks_39 : decode cX10_walks 39 = .ok (.ireturn, 1) := by decide +kernel
theorem dX10_walks_40 : decode cX10_walks 40 = .ok (.aload_n 0, 1) := by decide +kernel
theorem dX10_walks_41 : decode cX10_walks 41 = .ok (.getfield 57, 3) := by decide +kernel
theorem dX10_walks_44 : decode cX10_walks 44 = .ok (.aload_n 0, 1) := by decide +kernel
theorem dX10_walks_45 : decode cX10_walks 45 = .ok (.getfield 50, 3) := by decide +kernel
theorem dX10_walks_48 : decode cX10_walks 48 = .ok (.invokevirtual 258, 3) := by decide +kernel
theorem dX10_walks_51 : decode cX10_walks 51 = .ok (.aload_n 0, 1) := by decide +kernel
theorem dX10_walks_52 : decode cX10_walks 52 = .ok (.getfield 63, 3) := by decide +kernel
theorem dX10_walks_55 : decode cX10_walks 55 = .ok (.iload_n 2, 1) := by decide +kernel
theorem dX10_walks_56 : decode cX10_walks 56 = .ok (.putfield 262, 3) := by decide +kernel
theorem dX10_walks_59 : decode cX10_walks 59 = .ok (.iconst 0, 1) := by decide +kernel
theorem dX10_walks_60 : decode cX10_walks 60 = .ok (.istore 4, 2) := by decide +kernel
theorem dX10_walks_62 : decode cX10_walks 62 = .ok (.iload 4, 2) := by decide +kernel
theorem dX10_walks_64 : decode cX10_walks 64 = .ok (.iload_n 1, 1) := by decide +kernel
theorem dX10_walks_65 : decode cX10_walks 65 = .ok (.if_icmp .ge 31, 3) := by decide +kernel
theorem dX10_walks_68 : decode cX10_walks 68 = .ok (.aload_n 0, 1) := by decide +kernel
theorem dX10_walks_69 : decode cX10_walks 69 = .ok (.invokevirtual 265, 3) := by decide +kernel
theorem dX10_walks_72 : decode cX10_walks 72 = .ok (.aload_n 0, 1) := by decide +kernel
theorem dX10_walks_73 : decode cX10_walks 73 = .ok (.getfield 57, 3) := by decide +kernel
theorem dX10_walks_76 : decode cX10_walks 76 = .ok (.aload_n 0, 1) := by decide +kernel
theorem dX10_walks_77 : decode cX10_walks 77 = .ok (.getfield 43, 3) := by decide +kernel
theorem dX10_walks_80 : decode cX10_walks 80 = .ok (.aload_n 0, 1) := by decide +kernel
theorem dX10_walks_81 : decode cX10_walks 81 = .ok (.getfield 26, 3) := by decide +kernel
theorem dX10_walks_84 : decode cX10_walks 84 = .ok (.getfield 164, 3) := by decide +kernel
theorem dX10_walks_87 : decode cX10_walks 87 = .ok (.invokevirtual 211, 3) := by decide +kernel
theorem dX10_walks_90 : decode cX10_walks 90 = .ok (.iinc 4 1, 3) := by decide +kernel
theorem dX10_walks_93 : decode cX10_walks 93 = .ok (.goto (-31), 3) := by decide +kernel
theorem dX10_walks_96 : decode cX10_walks 96 = .ok (.iload_n 3, 1) := by decide +kernel
theorem dX10_walks_97 : decode cX10_walks 97 = .ok (.tableswitch 76 0 2 #[27, 38, 65], 27) := by decide +kernel
theorem dX10_walks_124 : decode cX10_walks 124 = .ok (.aload_n 0, 1) := by decide +kernel
theorem dX10_walks_125 : decode cX10_walks 125 = .ok (.getfield 57, 3) := by decide +kernel
theorem dX10_walks_128 : decode cX10_walks 128 = .ok (.getfield 190, 3) := by decide +kernel
theorem dX10_walks_131 : decode cX10_walks 131 = .ok (.invokestatic 206, 3) := by decide +kernel
theorem dX10_walks_134 : decode cX10_walks 134 = .ok (.ireturn, 1) := by decide +kernel
theorem dX10_walks_135 : decode cX10_walks 135 = .ok (.aload_n 0, 1) := by decide +kernel
theorem dX10_walks_136 : decode cX10_walks 136 = .ok (.getfield 43, 3) := by decide +kernel
theorem dX10_walks_139 : decode cX10_walks 139 = .ok (.iconst 0, 1) := by decide +kernel
theorem dX10_walks_140 : decode cX10_walks 140 = .ok (.invokevirtual 187, 3) := by decide +kernel
theorem dX10_walks_143 : decode cX10_walks 143 = .ok (.ifCond .eq 17, 3) := by decide +kernel
theorem dX10_walks_146 : decode cX10_walks 146 = .ok (.aload_n 0, 1) := by decide +kernel
theorem dX10_walks_147 : decode cX10_walks 147 = .ok (.getfield 57, 3) := by decide +kernel
theorem dX10_walks_150 : decode cX10_walks 150 = .ok (.getfield 184, 3) := by decide +kernel
theorem dX10_walks_153 : decode cX10_walks 153 = .ok (.iconst 0, 1) := by decide +kernel
theorem dX10_walks_154 : decode cX10_walks 154 = .ok (.invokevirtual 128, 3) := by decide +kernel
theorem dX10_walks_157 : decode cX10_walks 157 = .ok (.goto 4, 3) := by decide +kernel
theorem dX10_walks_160 : decode cX10_walks 160 = .ok (.iconst (-1), 1) := by decide +kernel
theorem dX10_walks_161 : decode cX10_walks 161 = .ok (.ireturn, 1) := by decide +kernel
theorem dX10_walks_162 : decode cX10_walks 162 = .ok (.aload_n 0, 1) := by decide +kernel
theorem dX10_walks_163 : decode cX10_walks 163 = .ok (.getfield 57, 3) := by decide +kernel
theorem dX10_walks_166 : decode cX10_walks 166 = .ok (.getfield 167, 3) := by decide +kernel
theorem dX10_walks_169 : decode cX10_walks 169 = .ok (.invokevirtual 268, 3) := by decide +kernel
theorem dX10_walks_172 : decode cX10_walks 172 = .ok (.ireturn, 1) := by decide +kernel
theorem dX10_walks_173 : decode cX10_walks 173 = .ok (.aload_n 0, 1) := by decide +kernel
theorem dX10_walks_174 : decode cX10_walks 174 = .ok (.getfield 63, 3) := by decide +kernel
theorem dX10_walks_177 : decode cX10_walks 177 = .ok (.getfield 262, 3) := by decide +kernel
theorem dX10_walks_180 : decode cX10_walks 180 = .ok (.ireturn, 1) := by decide +kernel
set_option maxRecDepth 20000 in
theorem ggX10_count_J6_bitCount_0f7a4 : GoodIn wsX10_count wsJ6_bitCount_0f7a4 := goodIn_r _ [17, 18, 19, 20] (by decide +kernel) (by decide +kernel)
set_option maxRecDepth 20000 in
theorem gX10_count_J6_bitCount_0f7a4 : GoodIn wsX10_count (va_wsS RX10 206 yJ6_bitCount_0f7a4 wsJ6_bitCount_0f7a4) := goodIn_app (goodIn_of _ (by decide +kernel)) ggX10_count_J6_bitCount_0f7a4
theorem dX10_count_0 : decode cX10_count 0 = .ok (.iload_n 1, 1) := by decide +kernel
theorem dX10_count_1 : decode cX10_count 1 = .ok (.tableswitch 131 0 8 #[51, 59, 70, 81, 89, 105, 113, 121, 126], 51) := by decide +kernel
theorem dX10_count_52 : decode cX10_count 52 = .ok (.aload_n 0, 1) := by decide +kernel
theorem dX10_count_53 : decode cX10_count 53 = .ok (.getfield 19, 3) := by decide +kernel
theorem dX10_count_56 : decode cX10_count 56 = .ok (.getfield 117, 3) := by decide +kernel
theorem dX10_count_59 : decode cX10_count 59 = .ok (.ireturn, 1) := by decide +kernel
theorem dX10_count_60 : decode cX10_count 60 = .ok (.aload_n 0, 1) := by decide +kernel
theorem dX10_count_61 : decode cX10_count 61 = .ok (.getfield 19, 3) := by decide +kernel
theorem dX10_count_64 : decode cX10_count 64 = .ok (.getfield 139, 3) := by decide +kernel
theorem dX10_count_67 : decode cX10_count 67 = .ok (.invokestatic 206, 3) := by decide +kernel
theorem dX10_count_70 : decode cX10_count 70 = .ok (.ireturn, 1) := by decide +kernel
theorem dX10_count_71 : decode cX10_count 71 = .ok (.aload_n 0, 1) := by decide +kernel
theorem dX10_count_72 : decode cX10_count 72 = .ok (.getfield 19, 3) := by decide +kernel
theorem dX10_count_75 : decode cX10_count 75 = .ok (.getfield 277, 3) := by decide +kernel
theorem dX10_count_78 : decode cX10_count 78 = .ok (.invokestatic 206, 3) := by decide +kernel
theorem dX10_count_81 : decode cX10_count 81 = .ok (.ireturn, 1) := by decide +kernel
theorem dX10_count_82 : decode cX10_count 82 = .ok (.aload_n 0, 1) := by decide +kernel
theorem dX10_count_83 : decode cX10_count 83 = .ok (.getfield 43, 3) := by decide +kernel
theorem dX10_count_86 : decode cX10_count 86 = .ok (.getfield 101, 3) := by decide +kernel
theorem dX10_count_89 : decode cX10_count 89 = .ok (.ireturn, 1) := by decide +kernel
theorem dX10_count_90 : decode cX10_count 90 = .ok (.aload_n 0, 1) := by decide +kernel
theorem dX10_count_91 : decode cX10_count 91 = .ok (.getfield 50, 3) := by decide +kernel
theorem dX10_count_94 : decode cX10_count 94 = .ok (.getfield 170, 3) := by decide +kernel
theorem dX10_count_97 : decode cX10_count 97 = .ok (.ifCond .eq 7, 3) := by decide +kernel
theorem dX10_count_100 : decode cX10_count 100 = .ok (.iconst 1, 1) := by decide +kernel
theorem dX10_count_101 : decode cX10_count 101 = .ok (.goto 4, 3) := by decide +kernel
theorem dX10_count_104 : decode cX10_count 104 = .ok (.iconst 0, 1) := by decide +kernel
theorem dX10_count_105 : decode cX10_count 105 = .ok (.ireturn, 1) := by decide +kernel
theorem dX10_count_106 : decode cX10_count 106 = .ok (.aload_n 0, 1) := by decide +kernel
theorem dX10_count_107 : decode cX10_count 107 = .ok (.getfield 50, 3) := by decide +kernel
theorem dX10_count_110 : decode cX10_count 110 = .ok (.getfield 274, 3) := by decide +kernel
theorem dX10_count_113 : decode cX10_count 113 = .ok (.ireturn, 1) := by decide +kernel
theorem dX10_count_114 : decode cX10_count 114 = .ok (.aload_n 0, 1) := by decide +kernel
theorem dX10_count_115 : decode cX10_count 115 = .ok (.getfield 10, 3) := by decide +kernel
theorem dX10_count_118 : decode cX10_count 118 = .ok (.getfield 82, 3) := by decide +kernel
theorem dX10_count_121 : decode cX10_count 121 = .ok (.ireturn, 1) := by decide +kernel
theorem dX10_count_122 : decode cX10_count 122 = .ok (.aload_n 0, 1) := by decide +kernel
theorem dX10_count_123 : decode cX10_count 123 = .ok (.getfield 111, 3) := by decide +kernel
theorem dX10_count_126 : decode cX10_count 126 = .ok (.ireturn, 1) := by decide +kernel
theorem dX10_count_127 : decode cX10_count 127 = .ok (.aload_n 0, 1) := by decide +kernel
theorem dX10_count_128 : decode cX10_count 128 = .ok (.getfield 221, 3) := by decide +kernel
theorem dX10_count_131 : decode cX10_count 131 = .ok (.ireturn, 1) := by decide +kernel
theorem dX10_count_132 : decode cX10_count 132 = .ok (.bipush (-102), 2) := by decide +kernel
theorem dX10_count_134 : decode cX10_count 134 = .ok (.ireturn, 1) := by decide +kernel
theorem dX10_isKnot_0 : decode cX10_isKnot 0 = .ok (.iload_n 0, 1) := by decide +kernel
theorem dX10_isKnot_1 : decode cX10_isKnot 1 = .ok (.ifCond .lt 13, 3) := by decide +kernel
theorem dX10_isKnot_4 : decode cX10_isKnot 4 = .ok (.iload_n 0, 1) := by decide +kernel
theorem dX10_isKnot_5 : decode cX10_isKnot 5 = .ok (.bipush 7, 2) := by decide +kernel
theorem dX10_isKnot_7 : decode cX10_isKnot 7 = .ok (.if_icmp .ge 7, 3) := by decide +kernel
theorem dX10_isKnot_10 : decode cX10_isKnot 10 = .ok (.iconst 1, 1) := by decide +kernel
theorem dX10_isKnot_11 : decode cX10_isKnot 11 = .ok (.goto 4, 3) := by decide +kernel
theorem dX10_isKnot_14 : decode cX10_isKnot 14 = .ok (.iconst 0, 1) := by decide +kernel
theorem dX10_isKnot_15 : decode cX10_isKnot 15 = .ok (.ireturn, 1) := by decide +kernel
theorem dX10_bit_0 : decode cX10_bit 0 = .ok (.iload_n 0, 1) := by decide +kernel
theorem dX10_bit_1 : decode cX10_bit 1 = .ok (.iload_n 1, 1) := by decide +kernel
theorem dX10_bit_2 : decode cX10_bit 2 = .ok (.ishr, 1) := by decide +kernel
theorem dX10_bit_3 : decode cX10_bit 3 = .ok (.iconst 1, 1) := by decide +kernel
theorem dX10_bit_4 : decode cX10_bit 4 = .ok (.iand, 1) := by decide +kernel
theorem dX10_bit_5 : decode cX10_bit 5 = .ok (.ireturn, 1) := by decide +kernel
set_option maxRecDepth 20000 in
theorem ggX10_windChanges_X0_blow : GoodIn wsX10_windChanges wsX0_blow := goodIn_r _ [11, 12, 13, 14, 15, 16, 10, 17, 18, 19, 20, 21, 22, 23, 24, 25, 26, 27, 28, 29, 30, 31, 32, 33, 34, 35, 36, 37, 38, 39, 40, 41, 42, 43, 44, 45, 46, 47, 48, 49, 50, 51, 52, 53, 54, 55, 56, 57, 58, 59, 60, 61, 62, 63, 64, 65, 123, 124, 125, 126, 127, 128, 129, 130, 131, 132, 133, 134] (by decide +kernel) (by decide +kernel)
set_option maxRecDepth 20000 in
theorem gX10_windChanges_X0_blow : GoodIn wsX10_windChanges (wsV RX10 305 RX0 yX0_blow wsX0_blow) := goodIn_app (goodIn_of _ (by decide +kernel)) ggX10_windChanges_X0_blow
set_option maxRecDepth 20000 in
theorem ggX10_windChanges_X0_carrySmoke : GoodIn wsX10_windChanges wsX0_carrySmoke := goodIn_r _ [69, 19, 61, 70, 71, 72, 73, 74, 75, 76, 77, 78, 79, 25, 80, 27, 81, 23, 24, 26, 31, 32, 33, 34, 82, 83, 84, 52, 85, 86, 87, 55, 88, 89, 90, 91, 92, 93, 94, 95, 96, 97, 98, 99, 100, 101, 127, 128, 129, 130, 131, 132, 133, 123, 124, 125, 126, 135, 134] (by decide +kernel) (by decide +kernel)
set_option maxRecDepth 20000 in
theorem gX10_windChanges_X0_carrySmoke : GoodIn wsX10_windChanges (wsV RX10 309 RX0 yX0_carrySmoke wsX0_carrySmoke) := goodIn_app (goodIn_of _ (by decide +kernel)) ggX10_windChanges_X0_carrySmoke
theorem dX10_windChanges_0 : decode cX10_windChanges 0 = .ok (.aload_n 0, 1) := by decide +kernel
theorem dX10_windChanges_1 : decode cX10_windChanges 1 = .ok (.getfield 26, 3) := by decide +kernel
theorem dX10_windChanges_4 : decode cX10_windChanges 4 = .ok (.aload_n 0, 1) := by decide +kernel
theorem dX10_windChanges_5 : decode cX10_windChanges 5 = .ok (.getfield 19, 3) := by decide +kernel
theorem dX10_windChanges_8 : decode cX10_windChanges 8 = .ok (.aload_n 0, 1) := by decide +kernel
theorem dX10_windChanges_9 : decode cX10_windChanges 9 = .ok (.getfield 50, 3) := by decide +kernel
theorem dX10_windChanges_12 : decode cX10_windChanges 12 = .ok (.getfield 146, 3) := by decide +kernel
theorem dX10_windChanges_15 : decode cX10_windChanges 15 = .ok (.aload_n 0, 1) := by decide +kernel
theorem dX10_windChanges_16 : decode cX10_windChanges 16 = .ok (.getfield 50, 3) := by decide +kernel
theorem dX10_windChanges_19 : decode cX10_windChanges 19 = .ok (.getfield 170, 3) := by decide +kernel
theorem dX10_windChanges_22 : decode cX10_windChanges 22 = .ok (.invokevirtual 305, 3) := by decide +kernel
theorem dX10_windChanges_25 : decode cX10_windChanges 25 = .ok (.aload_n 0, 1) := by decide +kernel
theorem dX10_windChanges_26 : decode cX10_windChanges 26 = .ok (.getfield 26, 3) := by decide +kernel
theorem dX10_windChanges_29 : decode cX10_windChanges 29 = .ok (.aload_n 0, 1) := by decide +kernel
theorem dX10_windChanges_30 : decode cX10_windChanges 30 = .ok (.getfield 19, 3) := by decide +kernel
theorem dX10_windChanges_33 : decode cX10_windChanges 33 = .ok (.aload_n 0, 1) := by decide +kernel
theorem dX10_windChanges_34 : decode cX10_windChanges 34 = .ok (.getfield 36, 3) := by decide +kernel
theorem dX10_windChanges_37 : decode cX10_windChanges 37 = .ok (.invokevirtual 309, 3) := by decide +kernel
theorem dX10_windChanges_40 : decode cX10_windChanges 40 = .ok (.return_, 1) := by decide +kernel
set_option maxRecDepth 20000 in
theorem ggX10_dreamWalk_X2_draw : GoodIn wsX10_dreamWalk wsX2_draw := goodIn_r _ [13, 14, 15, 16, 17, 18, 87] (by decide +kernel) (by decide +kernel)
set_option maxRecDepth 20000 in
theorem gX10_dreamWalk_X2_draw : GoodIn wsX10_dreamWalk (wsV RX10 319 RX2 yX2_draw wsX2_draw) := goodIn_app (goodIn_of _ (by decide +kernel)) ggX10_dreamWalk_X2_draw
set_option maxRecDepth 20000 in
theorem ggX10_dreamWalk_X10_bit : GoodIn wsX10_dreamWalk wsX10_bit := goodIn_r _ [22] (by decide +kernel) (by decide +kernel)
set_option maxRecDepth 20000 in
theorem gX10_dreamWalk_X10_bit : GoodIn wsX10_dreamWalk (va_wsS RX10 142 yX10_bit wsX10_bit) := goodIn_app (goodIn_of _ (by decide +kernel)) ggX10_dreamWalk_X10_bit
set_option maxRecDepth 20000 in
theorem ggX10_dreamWalk_X8_get : GoodIn wsX10_dreamWalk wsX8_get := goodIn_r _ [27, 28, 88] (by decide +kernel) (by decide +kernel)
set_option maxRecDepth 20000 in
theorem gX10_dreamWalk_X8_get : GoodIn wsX10_dreamWalk (wsV RX10 128 RX8 yX8_get wsX8_get) := goodIn_app (goodIn_of _ (by decide +kernel)) ggX10_dreamWalk_X8_get
set_option maxRecDepth 20000 in
theorem ggX10_dreamWalk_X5_galleriesAt : GoodIn wsX10_dreamWalk wsX5_galleriesAt := goodIn_r _ [33, 34, 35, 36, 37, 32, 38, 39, 40, 41, 24, 25, 26, 27, 28, 89, 90, 91, 92, 93, 94, 95, 88] (by decide +kernel) (by decide +kernel)
set_option maxRecDepth 20000 in
theorem gX10_dreamWalk_X5_galleriesAt : GoodIn wsX10_dreamWalk (wsV RX10 322 RX5 yX5_galleriesAt wsX5_galleriesAt) := goodIn_app (goodIn_of _ (by decide +kernel)) ggX10_dreamWalk_X5_galleriesAt
set_option maxRecDepth 20000 in
theorem ggX10_dreamWalk_J6_bitCount_0f7a4 : GoodIn wsX10_dreamWalk wsJ6_bitCount_0f7a4 := goodIn_r _ [45, 46, 47, 48] (by decide +kernel) (by decide +kernel)
set_option maxRecDepth 20000 in
theorem gX10_dreamWalk_J6_bitCount_0f7a4 : GoodIn wsX10_dreamWalk (va_wsS RX10 206 yJ6_bitCount_0f7a4 wsJ6_bitCount_0f7a4) := goodIn_app (goodIn_of _ (by decide +kernel)) ggX10_dreamWalk_J6_bitCount_0f7a4
set_option maxRecDepth 20000 in
theorem ggX10_dreamWalk_X10_placeOfBit : GoodIn wsX10_dreamWalk wsX10_placeOfBit := goodIn_r _ [51, 52, 53, 44, 54, 55] (by decide +kernel) (by decide +kernel)
set_option maxRecDepth 20000 in
theorem gX10_dreamWalk_X10_placeOfBit : GoodIn wsX10_dreamWalk (va_wsS RX10 325 yX10_placeOfBit wsX10_placeOfBit) := goodIn_app (goodIn_of _ (by decide +kernel)) ggX10_dreamWalk_X10_placeOfBit
set_option maxRecDepth 20000 in
theorem ggX10_dreamWalk_X5_otherEnd : GoodIn wsX10_dreamWalk wsX5_otherEnd := goodIn_r _ [59, 39, 40, 41, 24, 25, 26, 27, 28, 89, 90, 91, 92, 93, 94, 95, 88] (by decide +kernel) (by decide +kernel)
set_option maxRecDepth 20000 in
theorem gX10_dreamWalk_X5_otherEnd : GoodIn wsX10_dreamWalk (wsV RX10 203 RX5 yX5_otherEnd wsX5_otherEnd) := goodIn_app (goodIn_of _ (by decide +kernel)) ggX10_dreamWalk_X5_otherEnd
set_option maxRecDepth 20000 in
theorem ggX10_dreamWalk_X8_set : GoodIn wsX10_dreamWalk wsX8_set := goodIn_r _ [63, 28, 88] (by decide +kernel) (by decide +kernel)
set_option maxRecDepth 20000 in
theorem gX10_dreamWalk_X8_set : GoodIn wsX10_dreamWalk (wsV RX10 180 RX8 yX8_set wsX8_set) := goodIn_app (goodIn_of _ (by decide +kernel)) ggX10_dreamWalk_X8_set
theorem dX10_dreamWalk_0 : decode cX10_dreamWalk 0 = .ok (.aload_n 0, 1) := by decide +kernel
theorem dX10_dreamWalk_1 : decode cX10_dreamWalk 1 = .ok (.getfield 43, 3) := by decide +kernel
theorem dX10_dreamWalk_4 : decode cX10_dreamWalk 4 = .ok (.getfield 101, 3) := by decide +kernel
theorem dX10_dreamWalk_7 : decode cX10_dreamWalk 7 = .ok (.ifCond .ne 4, 3) := by decide +kernel
theorem dX10_dreamWalk_10 : decode cX10_dreamWalk 10 = .ok (.return_, 1) := by decide +kernel
theorem dX10_dreamWalk_11 : decode cX10_dreamWalk 11 = .ok (.aload_n 0, 1) := by decide +kernel
theorem dX10_dreamWalk_12 : decode cX10_dreamWalk 12 = .ok (.getfield 63, 3) := by decide +kernel
theorem dX10_dreamWalk_15 : decode cX10_dreamWalk 15 = .ok (.aload_n 0, 1) := by decide +kernel
theorem dX10_dreamWalk_16 : decode cX10_dreamWalk 16 = .ok (.getfield 43, 3) := by decide +kernel
theorem dX10_dreamWalk_19 : decode cX10_dreamWalk 19 = .ok (.getfield 101, 3) := by decide +kernel
theorem dX10_dreamWalk_22 : decode cX10_dreamWalk 22 = .ok (.invokevirtual 319, 3) := by decide +kernel
theorem dX10_dreamWalk_25 : decode cX10_dreamWalk 25 = .ok (.istore_n 1, 1) := by decide +kernel
theorem dX10_dreamWalk_26 : decode cX10_dreamWalk 26 = .ok (.aload_n 0, 1) := by decide +kernel
theorem dX10_dreamWalk_27 : decode cX10_dreamWalk 27 = .ok (.getfield 57, 3) := by decide +kernel
theorem dX10_dreamWalk_30 : decode cX10_dreamWalk 30 = .ok (.getfield 190, 3) := by decide +kernel
theorem dX10_dreamWalk_33 : decode cX10_dreamWalk 33 = .ok (.iload_n 1, 1) := by decide +kernel
theorem dX10_dreamWalk_34 : decode cX10_dreamWalk 34 = .ok (.invokestatic 142, 3) := by decide +kernel
theorem dX10_dreamWalk_37 : decode cX10_dreamWalk 37 = .ok (.iconst 1, 1) := by decide +kernel
theorem dX10_dreamWalk_38 : decode cX10_dreamWalk 38 = .ok (.if_icmp .ne 4, 3) := by decide +kernel
theorem dX10_dreamWalk_41 : decode cX10_dreamWalk 41 = .ok (.return_, 1) := by decide +kernel
theorem dX10_dreamWalk_42 : decode cX10_dreamWalk 42 = .ok (.aload_n 0, 1) := by decide +kernel
theorem dX10_dreamWalk_43 : decode cX10_dreamWalk 43 = .ok (.getfield 57, 3) := by decide +kernel
theorem dX10_dreamWalk_46 : decode cX10_dreamWalk 46 = .ok (.getfield 184, 3) := by decide +kernel
theorem dX10_dreamWalk_49 : decode cX10_dreamWalk 49 = .ok (.iload_n 1, 1) := by decide +kernel
theorem dX10_dreamWalk_50 : decode cX10_dreamWalk 50 = .ok (.invokevirtual 128, 3) := by decide +kernel
theorem dX10_dreamWalk_53 : decode cX10_dreamWalk 53 = .ok (.istore_n 2, 1) := by decide +kernel
theorem dX10_dreamWalk_54 : decode cX10_dreamWalk 54 = .ok (.aload_n 0, 1) := by decide +kernel
theorem dX10_dreamWalk_55 : decode cX10_dreamWalk 55 = .ok (.getfield 19, 3) := by decide +kernel
theorem dX10_dreamWalk_58 : decode cX10_dreamWalk 58 = .ok (.iload_n 2, 1) := by decide +kernel
theorem dX10_dreamWalk_59 : decode cX10_dreamWalk 59 = .ok (.aload_n 0, 1) := by decide +kernel
theorem dX10_dreamWalk_60 : decode cX10_dreamWalk 60 = .ok (.getfield 57, 3) := by decide +kernel
theorem dX10_dreamWalk_63 : decode cX10_dreamWalk 63 = .ok (.getfield 146, 3) := by decide +kernel
theorem dX10_dreamWalk_66 : decode cX10_dreamWalk 66 = .ok (.invokevirtual 322, 3) := by decide +kernel
theorem dX10_dreamWalk_69 : decode cX10_dreamWalk 69 = .ok (.istore_n 3, 1) := by decide +kernel
theorem dX10_dreamWalk_70 : decode cX10_dreamWalk 70 = .ok (.iload_n 3, 1) := by decide +kernel
theorem dX10_dreamWalk_71 : decode cX10_dreamWalk 71 = .ok (.ifCond .ne 4, 3) := by decide +kernel
theorem dX10_dreamWalk_74 : decode cX10_dreamWalk 74 = .ok (.return_, 1) := by decide +kernel
theorem dX10_dreamWalk_75 : decode cX10_dreamWalk 75 = .ok (.iload_n 3, 1) := by decide +kernel
theorem dX10_dreamWalk_76 : decode cX10_dreamWalk 76 = .ok (.aload_n 0, 1) := by decide +kernel
theorem dX10_dreamWalk_77 : decode cX10_dreamWalk 77 = .ok (.getfield 63, 3) := by decide +kernel
theorem dX10_dreamWalk_80 : decode cX10_dreamWalk 80 = .ok (.iload_n 3, 1) := by decide +kernel
theorem dX10_dreamWalk_81 : decode cX10_dreamWalk 81 = .ok (.invokestatic 206, 3) := by decide +kernel
theorem dX10_dreamWalk_84 : decode cX10_dreamWalk 84 = .ok (.invokevirtual 319, 3) := by decide +kernel
theorem dX10_dreamWalk_87 : decode cX10_dreamWalk 87 = .ok (.invokestatic 325, 3) := by decide +kernel
theorem dX10_dreamWalk_90 : decode cX10_dreamWalk 90 = .ok (.istore 4, 2) := by decide +kernel
theorem dX10_dreamWalk_92 : decode cX10_dreamWalk 92 = .ok (.aload_n 0, 1) := by decide +kernel
theorem dX10_dreamWalk_93 : decode cX10_dreamWalk 93 = .ok (.getfield 57, 3) := by decide +kernel
theorem dX10_dreamWalk_96 : decode cX10_dreamWalk 96 = .ok (.getfield 184, 3) := by decide +kernel
theorem dX10_dreamWalk_99 : decode cX10_dreamWalk 99 = .ok (.iload_n 1, 1) := by decide +kernel
theorem dX10_dreamWalk_100 : decode cX10_dreamWalk 100 = .ok (.aload_n 0, 1) := by decide +kernel
theorem dX10_dreamWalk_101 : decode cX10_dreamWalk 101 = .ok (.getfield 19, 3) := by decide +kernel
theorem dX10_dreamWalk_104 : decode cX10_dreamWalk 104 = .ok (.iload 4, 2) := by decide +kernel
theorem dX10_dreamWalk_106 : decode cX10_dreamWalk 106 = .ok (.iload_n 2, 1) := by decide +kernel
theorem dX10_dreamWalk_107 : decode cX10_dreamWalk 107 = .ok (.invokevirtual 203, 3) := by decide +kernel
theorem dX10_dreamWalk_110 : decode cX10_dreamWalk 110 = .ok (.invokevirtual 180, 3) := by decide +kernel
theorem dX10_dreamWalk_113 : decode cX10_dreamWalk 113 = .ok (.return_, 1) := by decide +kernel
set_option maxRecDepth 20000 in
theorem ggX10_placeOfBit_J6_numberOfTrailingZeros_0f7a4 : GoodIn wsX10_placeOfBit wsJ6_numberOfTrailingZeros_0f7a4 := goodIn_r _ [4, 5] (by decide +kernel) (by decide +kernel)
set_option maxRecDepth 20000 in
theorem gX10_placeOfBit_J6_numberOfTrailingZeros_0f7a4 : GoodIn wsX10_placeOfBit (va_wsS RX10 328 yJ6_numberOfTrailingZeros_0f7a4 wsJ6_numberOfTrailingZeros_0f7a4) := goodIn_app (goodIn_of _ (by decide +kernel)) ggX10_placeOfBit_J6_numberOfTrailingZeros_0f7a4
theorem dX10_placeOfBit_0 : decode cX10_placeOfBit 0 = .ok (.iload_n 0, 1) := by decide +kernel
theorem dX10_placeOfBit_1 : decode cX10_placeOfBit 1 = .ok (.istore_n 2, 1) := by decide +kernel
theorem dX10_placeOfBit_2 : decode cX10_placeOfBit 2 = .ok (.iconst 0, 1) := by decide +kernel
theorem dX10_placeOfBit_3 : decode cX10_placeOfBit 3 = .ok (.istore_n 3, 1) := by decide +kernel
theorem dX10_placeOfBit_4 : decode cX10_placeOfBit 4 = .ok (.iload_n 3, 1) := by decide +kernel
theorem dX10_placeOfBit_5 : decode cX10_placeOfBit 5 = .ok (.iload_n 1, 1) := by decide +kernel
theorem dX10_placeOfBit_6 : decode cX10_placeOfBit 6 = .ok (.if_icmp .ge 15, 3) := by decide +kernel
theorem dX10_placeOfBit_9 : decode cX10_placeOfBit 9 = .ok (.iload_n 2, 1) := by decide +kernel
theorem dX10_placeOfBit_10 : decode cX10_placeOfBit 10 = .ok (.iload_n 2, 1) := by decide +kernel
theorem dX10_placeOfBit_11 : decode cX10_placeOfBit 11 = .ok (.iconst 1, 1) := by decide +kernel
theorem dX10_placeOfBit_12 : decode cX10_placeOfBit 12 = .ok (.isub, 1) := by decide +kernel
theorem dX10_placeOfBit_13 : decode cX10_placeOfBit 13 = .ok (.iand, 1) := by decide +kernel
theorem dX10_placeOfBit_14 : decode cX10_placeOfBit 14 = .ok (.istore_n 2, 1) := by decide +kernel
theorem dX10_placeOfBit_15 : decode cX10_placeOfBit 15 = .ok (.iinc 3 1, 3) := by decide +kernel
theorem dX10_placeOfBit_18 : decode cX10_placeOfBit 18 = .ok (.goto (-14), 3) := by decide +kernel
theorem dX10_placeOfBit_21 : decode cX10_placeOfBit 21 = .ok (.iload_n 2, 1) := by decide +kernel
theorem dX10_placeOfBit_22 : decode cX10_placeOfBit 22 = .ok (.invokestatic 328, 3) := by decide +kernel
theorem dX10_placeOfBit_25 : decode cX10_placeOfBit 25 = .ok (.ireturn, 1) := by decide +kernel
theorem dJ6_numberOfTrailingZeros_0f7a4_0 : decode cJ6_numberOfTrailingZeros_0f7a4 0 = .ok (.iload_n 0, 1) := by decide +kernel
theorem dJ6_numberOfTrailingZeros_0f7a4_1 : decode cJ6_numberOfTrailingZeros_0f7a4 1 = .ok (.iconst (-1), 1) := by decide +kernel
theorem dJ6_numberOfTrailingZeros_0f7a4_2 : decode cJ6_numberOfTrailingZeros_0f7a4 2 = .ok (.ixor, 1) := by decide +kernel
theorem dJ6_numberOfTrailingZeros_0f7a4_3 : decode cJ6_numberOfTrailingZeros_0f7a4 3 = .ok (.iload_n 0, 1) := by decide +kernel
theorem dJ6_numberOfTrailingZeros_0f7a4_4 : decode cJ6_numberOfTrailingZeros_0f7a4 4 = .ok (.iconst 1, 1) := by decide +kernel
theorem dJ6_numberOfTrailingZeros_0f7a4_5 : decode cJ6_numberOfTrailingZeros_0f7a4 5 = .ok (.isub, 1) := by decide +kernel
theorem dJ6_numberOfTrailingZeros_0f7a4_6 : decode cJ6_numberOfTrailingZeros_0f7a4 6 = .ok (.iand, 1) := by decide +kernel
theorem dJ6_numberOfTrailingZeros_0f7a4_7 : decode cJ6_numberOfTrailingZeros_0f7a4 7 = .ok (.istore_n 0, 1) := by decide +kernel
theorem dJ6_numberOfTrailingZeros_0f7a4_8 : decode cJ6_numberOfTrailingZeros_0f7a4 8 = .ok (.iload_n 0, 1) := by decide +kernel
theorem dJ6_numberOfTrailingZeros_0f7a4_9 : decode cJ6_numberOfTrailingZeros_0f7a4 9 = .ok (.ifCond .gt 8, 3) := by decide +kernel
theorem dJ6_numberOfTrailingZeros_0f7a4_12 : decode cJ6_numberOfTrailingZeros_0f7a4 12 = .ok (.iload_n 0, 1) := by decide +kernel
theorem dJ6_numberOfTrailingZeros_0f7a4_13 : decode cJ6_numberOfTrailingZeros_0f7a4 13 = .ok (.bipush 32, 2) := by decide +kernel
theorem dJ6_numberOfTrailingZeros_0f7a4_15 : decode cJ6_numberOfTrailingZeros_0f7a4 15 = .ok (.iand, 1) := by decide +kernel
theorem dJ6_numberOfTrailingZeros_0f7a4_16 : decode cJ6_numberOfTrailingZeros_0f7a4 16 = .ok (.ireturn, 1) := by decide +kernel
theorem dJ6_numberOfTrailingZeros_0f7a4_17 : decode cJ6_numberOfTrailingZeros_0f7a4 17 = .ok (.iconst 1, 1) := by decide +kernel
theorem dJ6_numberOfTrailingZeros_0f7a4_18 : decode cJ6_numberOfTrailingZeros_0f7a4 18 = .ok (.istore_n 1, 1) := by decide +kernel
theorem dJ6_numberOfTrailingZeros_0f7a4_19 : decode cJ6_numberOfTrailingZeros_0f7a4 19 = .ok (.iload_n 0, 1) := by decide +kernel
theorem dJ6_numberOfTrailingZeros_0f7a4_20 : decode cJ6_numberOfTrailingZeros_0f7a4 20 = .ok (.ldc_w 264, 3) := by decide +kernel
theorem dJ6_numberOfTrailingZeros_0f7a4_23 : decode cJ6_numberOfTrailingZeros_0f7a4 23 = .ok (.if_icmp .le 11, 3) := by decide +kernel
theorem dJ6_numberOfTrailingZeros_0f7a4_26 : decode cJ6_numberOfTrailingZeros_0f7a4 26 = .ok (.iinc 1 16, 3) := by decide +kernel
theorem dJ6_numberOfTrailingZeros_0f7a4_29 : decode cJ6_numberOfTrailingZeros_0f7a4 29 = .ok (.iload_n 0, 1) := by decide +kernel
theorem dJ6_numberOfTrailingZeros_0f7a4_30 : decode cJ6_numberOfTrailingZeros_0f7a4 30 = .ok (.bipush 16, 2) := by decide +kernel
theorem dJ6_numberOfTrailingZeros_0f7a4_32 : decode cJ6_numberOfTrailingZeros_0f7a4 32 = .ok (.iushr, 1) := by decide +kernel
theorem dJ6_numberOfTrailingZeros_0f7a4_33 : decode cJ6_numberOfTrailingZeros_0f7a4 33 = .ok (.istore_n 0, 1) := by decide +kernel
theorem dJ6_numberOfTrailingZeros_0f7a4_34 : decode cJ6_numberOfTrailingZeros_0f7a4 34 = .ok (.iload_n 0, 1) := by decide +kernel
theorem dJ6_numberOfTrailingZeros_0f7a4_35 : decode cJ6_numberOfTrailingZeros_0f7a4 35 = .ok (.sipush 256, 3) := by decide +kernel
theorem dJ6_numberOfTrailingZeros_0f7a4_38 : decode cJ6_numberOfTrailingZeros_0f7a4 38 = .ok (.if_icmp .le 11, 3) := by decide +kernel
theorem dJ6_numberOfTrailingZeros_0f7a4_41 : decode cJ6_numberOfTrailingZeros_0f7a4 41 = .ok (.iinc 1 8, 3) := by decide +kernel
theorem dJ6_numberOfTrailingZeros_0f7a4_44 : decode cJ6_numberOfTrailingZeros_0f7a4 44 = .ok (.iload_n 0, 1) := by decide +kernel
theorem dJ6_numberOfTrailingZeros_0f7a4_45 : decode cJ6_numberOfTrailingZeros_0f7a4 45 = .ok (.bipush 8, 2) := by decide +kernel
theorem dJ6_numberOfTrailingZeros_0f7a4_47 : decode cJ6_numberOfTrailingZeros_0f7a4 47 = .ok (.iushr, 1) := by decide +kernel
theorem dJ6_numberOfTrailingZeros_0f7a4_48 : decode cJ6_numberOfTrailingZeros_0f7a4 48 = .ok (.istore_n 0, 1) := by decide +kernel
theorem dJ6_numberOfTrailingZeros_0f7a4_49 : decode cJ6_numberOfTrailingZeros_0f7a4 49 = .ok (.iload_n 0, 1) := by decide +kernel
theorem dJ6_numberOfTrailingZeros_0f7a4_50 : decode cJ6_numberOfTrailingZeros_0f7a4 50 = .ok (.bipush 16, 2) := by decide +kernel
theorem dJ6_numberOfTrailingZeros_0f7a4_52 : decode cJ6_numberOfTrailingZeros_0f7a4 52 = .ok (.if_icmp .le 10, 3) := by decide +kernel
theorem dJ6_numberOfTrailingZeros_0f7a4_55 : decode cJ6_numberOfTrailingZeros_0f7a4 55 = .ok (.iinc 1 4, 3) := by decide +kernel
theorem dJ6_numberOfTrailingZeros_0f7a4_58 : decode cJ6_numberOfTrailingZeros_0f7a4 58 = .ok (.iload_n 0, 1) := by decide +kernel
theorem dJ6_numberOfTrailingZeros_0f7a4_59 : decode cJ6_numberOfTrailingZeros_0f7a4 59 = .ok (.iconst 4, 1) := by decide +kernel
theorem dJ6_numberOfTrailingZeros_0f7a4_60 : decode cJ6_numberOfTrailingZeros_0f7a4 60 = .ok (.iushr, 1) := by decide +kernel
theorem dJ6_numberOfTrailingZeros_0f7a4_61 : decode cJ6_numberOfTrailingZeros_0f7a4 61 = .ok (.istore_n 0, 1) := by decide +kernel
theorem dJ6_numberOfTrailingZeros_0f7a4_62 : decode cJ6_numberOfTrailingZeros_0f7a4 62 = .ok (.iload_n 0, 1) := by decide +kernel
theorem dJ6_numberOfTrailingZeros_0f7a4_63 : decode cJ6_numberOfTrailingZeros_0f7a4 63 = .ok (.iconst 4, 1) := by decide +kernel
theorem dJ6_numberOfTrailingZeros_0f7a4_64 : decode cJ6_numberOfTrailingZeros_0f7a4 64 = .ok (.if_icmp .le 10, 3) := by decide +kernel
theorem dJ6_numberOfTrailingZeros_0f7a4_67 : decode cJ6_numberOfTrailingZeros_0f7a4 67 = .ok (.iinc 1 2, 3) := by decide +kernel
theorem dJ6_numberOfTrailingZeros_0f7a4_70 : decode cJ6_numberOfTrailingZeros_0f7a4 70 = .ok (.iload_n 0, 1) := by decide +kernel
theorem dJ6_numberOfTrailingZeros_0f7a4_71 : decode cJ6_numberOfTrailingZeros_0f7a4 71 = .ok (.iconst 2, 1) := by decide +kernel
theorem dJ6_numberOfTrailingZeros_0f7a4_72 : decode cJ6_numberOfTrailingZeros_0f7a4 72 = .ok (.iushr, 1) := by decide +kernel
theorem dJ6_numberOfTrailingZeros_0f7a4_73 : decode cJ6_numberOfTrailingZeros_0f7a4 73 = .ok (.istore_n 0, 1) := by decide +kernel
theorem dJ6_numberOfTrailingZeros_0f7a4_74 : decode cJ6_numberOfTrailingZeros_0f7a4 74 = .ok (.iload_n 1, 1) := by decide +kernel
theorem dJ6_numberOfTrailingZeros_0f7a4_75 : decode cJ6_numberOfTrailingZeros_0f7a4 75 = .ok (.iload_n 0, 1) := by decide +kernel
theorem dJ6_numberOfTrailingZeros_0f7a4_76 : decode cJ6_numberOfTrailingZeros_0f7a4 76 = .ok (.iconst 1, 1) := by decide +kernel
theorem dJ6_numberOfTrailingZeros_0f7a4_77 : decode cJ6_numberOfTrailingZeros_0f7a4 77 = .ok (.iushr, 1) := by decide +kernel
theorem dJ6_numberOfTrailingZeros_0f7a4_78 : decode cJ6_numberOfTrailingZeros_0f7a4 78 = .ok (.iadd, 1) := by decide +kernel
theorem dJ6_numberOfTrailingZeros_0f7a4_79 : decode cJ6_numberOfTrailingZeros_0f7a4 79 = .ok (.ireturn, 1) := by decide +kernel
theorem dJ6_bitCount_0f7a4_0 : decode cJ6_bitCount_0f7a4 0 = .ok (.iload_n 0, 1) := by decide +kernel
theorem dJ6_bitCount_0f7a4_1 : decode cJ6_bitCount_0f7a4 1 = .ok (.iload_n 0, 1) := by decide +kernel
theorem dJ6_bitCount_0f7a4_2 : decode cJ6_bitCount_0f7a4 2 = .ok (.iconst 1, 1) := by decide +kernel
theorem dJ6_bitCount_0f7a4_3 : decode cJ6_bitCount_0f7a4 3 = .ok (.iushr, 1) := by decide +kernel
theorem dJ6_bitCount_0f7a4_4 : decode cJ6_bitCount_0f7a4 4 = .ok (.ldc_w 265, 3) := by decide +kernel
theorem dJ6_bitCount_0f7a4_7 : decode cJ6_bitCount_0f7a4 7 = .ok (.iand, 1) := by decide +kernel
theorem dJ6_bitCount_0f7a4_8 : decode cJ6_bitCount_0f7a4 8 = .ok (.isub, 1) := by decide +kernel
theorem dJ6_bitCount_0f7a4_9 : decode cJ6_bitCount_0f7a4 9 = .ok (.istore_n 0, 1) := by decide +kernel
theorem dJ6_bitCount_0f7a4_10 : decode cJ6_bitCount_0f7a4 10 = .ok (.iload_n 0, 1) := by decide +kernel
theorem dJ6_bitCount_0f7a4_11 : decode cJ6_bitCount_0f7a4 11 = .ok (.ldc_w 266, 3) := by decide +kernel
theorem dJ6_bitCount_0f7a4_14 : decode cJ6_bitCount_0f7a4 14 = .ok (.iand, 1) := by decide +kernel
theorem dJ6_bitCount_0f7a4_15 : decode cJ6_bitCount_0f7a4 15 = .ok (.iload_n 0, 1) := by decide +kernel
theorem dJ6_bitCount_0f7a4_16 : decode cJ6_bitCount_0f7a4 16 = .ok (.iconst 2, 1) := by decide +kernel
theorem dJ6_bitCount_0f7a4_17 : decode cJ6_bitCount_0f7a4 17 = .ok (.iushr, 1) := by decide +kernel
theorem dJ6_bitCount_0f7a4_18 : decode cJ6_bitCount_0f7a4 18 = .ok (.ldc_w 266, 3) := by decide +kernel
theorem dJ6_bitCount_0f7a4_21 : decode cJ6_bitCount_0f7a4 21 = .ok (.iand, 1) := by decide +kernel
theorem dJ6_bitCount_0f7a4_22 : decode cJ6_bitCount_0f7a4 22 = .ok (.iadd, 1) := by decide +kernel
theorem dJ6_bitCount_0f7a4_23 : decode cJ6_bitCount_0f7a4 23 = .ok (.istore_n 0, 1) := by decide +kernel
theorem dJ6_bitCount_0f7a4_24 : decode cJ6_bitCount_0f7a4 24 = .ok (.iload_n 0, 1) := by decide +kernel
theorem dJ6_bitCount_0f7a4_25 : decode cJ6_bitCount_0f7a4 25 = .ok (.iload_n 0, 1) := by decide +kernel
theorem dJ6_bitCount_0f7a4_26 : decode cJ6_bitCount_0f7a4 26 = .ok (.iconst 4, 1) := by decide +kernel
theorem dJ6_bitCount_0f7a4_27 : decode cJ6_bitCount_0f7a4 27 = .ok (.iushr, 1) := by decide +kernel
theorem dJ6_bitCount_0f7a4_28 : decode cJ6_bitCount_0f7a4 28 = .ok (.iadd, 1) := by decide +kernel
theorem dJ6_bitCount_0f7a4_29 : decode cJ6_bitCount_0f7a4 29 = .ok (.ldc_w 267, 3) := by decide +kernel
theorem dJ6_bitCount_0f7a4_32 : decode cJ6_bitCount_0f7a4 32 = .ok (.iand, 1) := by decide +kernel
theorem dJ6_bitCount_0f7a4_33 : decode cJ6_bitCount_0f7a4 33 = .ok (.istore_n 0, 1) := by decide +kernel
theorem dJ6_bitCount_0f7a4_34 : decode cJ6_bitCount_0f7a4 34 = .ok (.iload_n 0, 1) := by decide +kernel
theorem dJ6_bitCount_0f7a4_35 : decode cJ6_bitCount_0f7a4 35 = .ok (.iload_n 0, 1) := by decide +kernel
theorem dJ6_bitCount_0f7a4_36 : decode cJ6_bitCount_0f7a4 36 = .ok (.bipush 8, 2) := by decide +kernel
theorem dJ6_bitCount_0f7a4_38 : decode cJ6_bitCount_0f7a4 38 = .ok (.iushr, 1) := by decide +kernel
theorem dJ6_bitCount_0f7a4_39 : decode cJ6_bitCount_0f7a4 39 = .ok (.iadd, 1) := by decide +kernel
theorem dJ6_bitCount_0f7a4_40 : decode cJ6_bitCount_0f7a4 40 = .ok (.istore_n 0, 1) := by decide +kernel
theorem dJ6_bitCount_0f7a4_41 : decode cJ6_bitCount_0f7a4 41 = .ok (.iload_n 0, 1) := by decide +kernel
theorem dJ6_bitCount_0f7a4_42 : decode cJ6_bitCount_0f7a4 42 = .ok (.iload_n 0, 1) := by decide +kernel
theorem dJ6_bitCount_0f7a4_43 : decode cJ6_bitCount_0f7a4 43 = .ok (.bipush 16, 2) := by decide +kernel
theorem dJ6_bitCount_0f7a4_45 : decode cJ6_bitCount_0f7a4 45 = .ok (.iushr, 1) := by decide +kernel
theorem dJ6_bitCount_0f7a4_46 : decode cJ6_bitCount_0f7a4 46 = .ok (.iadd, 1) := by decide +kernel
theorem dJ6_bitCount_0f7a4_47 : decode cJ6_bitCount_0f7a4 47 = .ok (.istore_n 0, 1) := by decide +kernel
theorem dJ6_bitCount_0f7a4_48 : decode cJ6_bitCount_0f7a4 48 = .ok (.iload_n 0, 1) := by decide +kernel
theorem dJ6_bitCount_0f7a4_49 : decode cJ6_bitCount_0f7a4 49 = .ok (.bipush 63, 2) := by decide +kernel
theorem dJ6_bitCount_0f7a4_51 : decode cJ6_bitCount_0f7a4 51 = .ok (.iand, 1) := by decide +kernel
theorem dJ6_bitCount_0f7a4_52 : decode cJ6_bitCount_0f7a4 52 = .ok (.ireturn, 1) := by decide +kernel
theorem dJ9_min_7cf53_0 : decode cJ9_min_7cf53 0 = .ok (.iload_n 0, 1) := by decide +kernel
theorem dJ9_min_7cf53_1 : decode cJ9_min_7cf53 1 = .ok (.iload_n 1, 1) := by decide +kernel
theorem dJ9_min_7cf53_2 : decode cJ9_min_7cf53 2 = .ok (.if_icmp .gt 7, 3) := by decide +kernel
theorem dJ9_min_7cf53_5 : decode cJ9_min_7cf53 5 = .ok (.iload_n 0, 1) := by decide +kernel
theorem dJ9_min_7cf53_6 : decode cJ9_min_7cf53 6 = .ok (.goto 4, 3) := by decide +kernel
theorem dJ9_min_7cf53_9 : decode cJ9_min_7cf53 9 = .ok (.iload_n 1, 1) := by decide +kernel
theorem dJ9_min_7cf53_10 : decode cJ9_min_7cf53 10 = .ok (.ireturn, 1) := by decide +kernel
theorem dL_cell_0 : decode cL_cell 0 = .ok (.iload_n 1, 1) := by decide +kernel
theorem dL_cell_1 : decode cL_cell 1 = .ok (.aload_n 0, 1) := by decide +kernel
theorem dL_cell_2 : decode cL_cell 2 = .ok (.arraylength, 1) := by decide +kernel
theorem dL_cell_3 : decode cL_cell 3 = .ok (.if_icmp .ge 9, 3) := by decide +kernel
theorem dL_cell_6 : decode cL_cell 6 = .ok (.aload_n 0, 1) := by decide +kernel
theorem dL_cell_7 : decode cL_cell 7 = .ok (.iload_n 1, 1) := by decide +kernel
theorem dL_cell_8 : decode cL_cell 8 = .ok (.iaload, 1) := by decide +kernel
theorem dL_cell_9 : decode cL_cell 9 = .ok (.goto 9, 3) := by decide +kernel
theorem dL_cell_12 : decode cL_cell 12 = .ok (.ldc 7, 2) := by decide +kernel
theorem dL_cell_14 : decode cL_cell 14 = .ok (.iload_n 1, 1) := by decide +kernel
theorem dL_cell_15 : decode cL_cell 15 = .ok (.iconst 1, 1) := by decide +kernel
theorem dL_cell_16 : decode cL_cell 16 = .ok (.iadd, 1) := by decide +kernel
theorem dL_cell_17 : decode cL_cell 17 = .ok (.imul, 1) := by decide +kernel
theorem dL_cell_18 : decode cL_cell 18 = .ok (.ireturn, 1) := by decide +kernel
theorem dL_at_0 : decode cL_at 0 = .ok (.iload_n 0, 1) := by decide +kernel
theorem dL_at_1 : decode cL_at 1 = .ok (.iconst 1, 1) := by decide +kernel
theorem dL_at_2 : decode cL_at 2 = .ok (.iushr, 1) := by decide +kernel
theorem dL_at_3 : decode cL_at 3 = .ok (.iload_n 1, 1) := by decide +kernel
theorem dL_at_4 : decode cL_at 4 = .ok (.irem, 1) := by decide +kernel
theorem dL_at_5 : decode cL_at 5 = .ok (.ireturn, 1) := by decide +kernel
set_option maxRecDepth 20000 in
theorem ggL_mineText_L_cell : GoodIn wsL_mineText wsL_cell := goodIn_r _ [4, 5] (by decide +kernel) (by decide +kernel)
set_option maxRecDepth 20000 in
theorem gL_mineText_L_cell : GoodIn wsL_mineText (va_wsS RL 8 yL_cell wsL_cell) := goodIn_app (goodIn_of _ (by decide +kernel)) ggL_mineText_L_cell
set_option maxRecDepth 20000 in
theorem ggL_mineText_L_at : GoodIn wsL_mineText wsL_at := goodIn_r _ [8] (by decide +kernel) (by decide +kernel)
set_option maxRecDepth 20000 in
theorem gL_mineText_L_at : GoodIn wsL_mineText (va_wsS RL 14 yL_at wsL_at) := goodIn_app (goodIn_of _ (by decide +kernel)) ggL_mineText_L_at
theorem dL_mineText_0 : decode cL_mineText 0 = .ok (.aload_n 0, 1) := by decide +kernel
theorem dL_mineText_1 : decode cL_mineText 1 = .ok (.iload_n 1, 1) := by decide +kernel
theorem dL_mineText_2 : decode cL_mineText 2 = .ok (.invokestatic 8, 3) := by decide +kernel
theorem dL_mineText_5 : decode cL_mineText 5 = .ok (.istore 5, 2) := by decide +kernel
theorem dL_mineText_7 : decode cL_mineText 7 = .ok (.iconst 0, 1) := by decide +kernel
theorem dL_mineText_8 : decode cL_mineText 8 = .ok (.istore 6, 2) := by decide +kernel
theorem dL_mineText_10 : decode cL_mineText 10 = .ok (.iconst 3, 1) := by decide +kernel
theorem dL_mineText_11 : decode cL_mineText 11 = .ok (.iload 5, 2) := by decide +kernel
end
section
theorem dL_mineText_13 : decode cL_mineText 13 = .ok (.iconst 5, 1) := by decide +kernel
theorem dL_mineText_14 : decode cL_mineText 14 = .ok (.invokestatic 14, 3) := by decide +kernel
theorem dL_mineText_17 : decode cL_mineText 17 = .ok (.iadd, 1) := by decide +kernel
theorem dL_mineText_18 : decode cL_mineText 18 = .ok (.istore 7, 2) := by decide +kernel
theorem dL_mineText_20 : decode cL_mineText 20 = .ok (.aload_n 3, 1) := by decide +kernel
theorem dL_mineText_21 : decode cL_mineText 21 = .ok (.iconst 0, 1) := by decide +kernel
theorem dL_mineText_22 : decode cL_mineText 22 = .ok (.iconst 1, 1) := by decide +kernel
theorem dL_mineText_23 : decode cL_mineText 23 = .ok (.iload 5, 2) := by decide +kernel
theorem dL_mineText_25 : decode cL_mineText 25 = .ok (.iconst 3, 1) := by decide +kernel
theorem dL_mineText_26 : decode cL_mineText 26 = .ok (.ishr, 1) := by decide +kernel
theorem dL_mineText_27 : decode cL_mineText 27 = .ok (.iload_n 2, 1) := by decide +kernel
theorem dL_mineText_28 : decode cL_mineText 28 = .ok (.invokestatic 14, 3) := by decide +kernel
theorem dL_mineText_31 : decode cL_mineText 31 = .ok (.iadd, 1) := by decide +kernel
theorem dL_mineText_32 : decode cL_mineText 32 = .ok (.iastore, 1) := by decide +kernel
theorem dL_mineText_33 : decode cL_mineText 33 = .ok (.aload_n 3, 1) := by decide +kernel
theorem dL_mineText_34 : decode cL_mineText 34 = .ok (.bipush 51, 2) := by decide +kernel
theorem dL_mineText_36 : decode cL_mineText 36 = .ok (.iconst 0, 1) := by decide +kernel
theorem dL_mineText_37 : decode cL_mineText 37 = .ok (.iastore, 1) := by decide +kernel
theorem dL_mineText_38 : decode cL_mineText 38 = .ok (.iconst 0, 1) := by decide +kernel
theorem dL_mineText_39 : decode cL_mineText 39 = .ok (.istore 8, 2) := by decide +kernel
theorem dL_mineText_41 : decode cL_mineText 41 = .ok (.iload 8, 2) := by decide +kernel
theorem dL_mineText_43 : decode cL_mineText 43 = .ok (.aload_n 3, 1) := by decide +kernel
theorem dL_mineText_44 : decode cL_mineText 44 = .ok (.iconst 0, 1) := by decide +kernel
theorem dL_mineText_45 : decode cL_mineText 45 = .ok (.iaload, 1) := by decide +kernel
theorem dL_mineText_46 : decode cL_mineText 46 = .ok (.if_icmp .ge 205, 3) := by decide +kernel
theorem dL_mineText_49 : decode cL_mineText 49 = .ok (.aload_n 0, 1) := by decide +kernel
theorem dL_mineText_50 : decode cL_mineText 50 = .ok (.iload_n 1, 1) := by decide +kernel
theorem dL_mineText_51 : decode cL_mineText 51 = .ok (.iconst 1, 1) := by decide +kernel
theorem dL_mineText_52 : decode cL_mineText 52 = .ok (.iadd, 1) := by decide +kernel
theorem dL_mineText_53 : decode cL_mineText 53 = .ok (.iload 8, 2) := by decide +kernel
theorem dL_mineText_55 : decode cL_mineText 55 = .ok (.iconst 5, 1) := by decide +kernel
theorem dL_mineText_56 : decode cL_mineText 56 = .ok (.irem, 1) := by decide +kernel
theorem dL_mineText_57 : decode cL_mineText 57 = .ok (.iadd, 1) := by decide +kernel
theorem dL_mineText_58 : decode cL_mineText 58 = .ok (.invokestatic 8, 3) := by decide +kernel
theorem dL_mineText_61 : decode cL_mineText 61 = .ok (.bipush 12, 2) := by decide +kernel
theorem dL_mineText_63 : decode cL_mineText 63 = .ok (.iload 8, 2) := by decide +kernel
theorem dL_mineText_65 : decode cL_mineText 65 = .ok (.iconst 5, 1) := by decide +kernel
theorem dL_mineText_66 : decode cL_mineText 66 = .ok (.idiv, 1) := by decide +kernel
theorem dL_mineText_67 : decode cL_mineText 67 = .ok (.imul, 1) := by decide +kernel
theorem dL_mineText_68 : decode cL_mineText 68 = .ok (.ishr, 1) := by decide +kernel
theorem dL_mineText_69 : decode cL_mineText 69 = .ok (.istore 9, 2) := by decide +kernel
theorem dL_mineText_71 : decode cL_mineText 71 = .ok (.aload_n 3, 1) := by decide +kernel
theorem dL_mineText_72 : decode cL_mineText 72 = .ok (.iconst 1, 1) := by decide +kernel
theorem dL_mineText_73 : decode cL_mineText 73 = .ok (.iload 8, 2) := by decide +kernel
theorem dL_mineText_75 : decode cL_mineText 75 = .ok (.iadd, 1) := by decide +kernel
theorem dL_mineText_76 : decode cL_mineText 76 = .ok (.iload 9, 2) := by decide +kernel
theorem dL_mineText_78 : decode cL_mineText 78 = .ok (.iload 7, 2) := by decide +kernel
theorem dL_mineText_80 : decode cL_mineText 80 = .ok (.invokestatic 14, 3) := by decide +kernel
theorem dL_mineText_83 : decode cL_mineText 83 = .ok (.iastore, 1) := by decide +kernel
theorem dL_mineText_84 : decode cL_mineText 84 = .ok (.aload_n 3, 1) := by decide +kernel
theorem dL_mineText_85 : decode cL_mineText 85 = .ok (.bipush 11, 2) := by decide +kernel
theorem dL_mineText_87 : decode cL_mineText 87 = .ok (.iload 8, 2) := by decide +kernel
theorem dL_mineText_89 : decode cL_mineText 89 = .ok (.iadd, 1) := by decide +kernel
theorem dL_mineText_90 : decode cL_mineText 90 = .ok (.aload_n 3, 1) := by decide +kernel
theorem dL_mineText_91 : decode cL_mineText 91 = .ok (.iconst 1, 1) := by decide +kernel
theorem dL_mineText_92 : decode cL_mineText 92 = .ok (.iload 8, 2) := by decide +kernel
theorem dL_mineText_94 : decode cL_mineText 94 = .ok (.iadd, 1) := by decide +kernel
theorem dL_mineText_95 : decode cL_mineText 95 = .ok (.iaload, 1) := by decide +kernel
theorem dL_mineText_96 : decode cL_mineText 96 = .ok (.iconst 1, 1) := by decide +kernel
theorem dL_mineText_97 : decode cL_mineText 97 = .ok (.iadd, 1) := by decide +kernel
theorem dL_mineText_98 : decode cL_mineText 98 = .ok (.iload 9, 2) := by decide +kernel
theorem dL_mineText_100 : decode cL_mineText 100 = .ok (.iconst 3, 1) := by decide +kernel
theorem dL_mineText_101 : decode cL_mineText 101 = .ok (.ishr, 1) := by decide +kernel
theorem dL_mineText_102 : decode cL_mineText 102 = .ok (.iload 7, 2) := by decide +kernel
theorem dL_mineText_104 : decode cL_mineText 104 = .ok (.iconst 1, 1) := by decide +kernel
theorem dL_mineText_105 : decode cL_mineText 105 = .ok (.isub, 1) := by decide +kernel
theorem dL_mineText_106 : decode cL_mineText 106 = .ok (.invokestatic 14, 3) := by decide +kernel
theorem dL_mineText_109 : decode cL_mineText 109 = .ok (.iadd, 1) := by decide +kernel
theorem dL_mineText_110 : decode cL_mineText 110 = .ok (.iload 7, 2) := by decide +kernel
theorem dL_mineText_112 : decode cL_mineText 112 = .ok (.irem, 1) := by decide +kernel
theorem dL_mineText_113 : decode cL_mineText 113 = .ok (.iastore, 1) := by decide +kernel
theorem dL_mineText_114 : decode cL_mineText 114 = .ok (.aload_n 3, 1) := by decide +kernel
theorem dL_mineText_115 : decode cL_mineText 115 = .ok (.bipush 21, 2) := by decide +kernel
theorem dL_mineText_117 : decode cL_mineText 117 = .ok (.iload 8, 2) := by decide +kernel
theorem dL_mineText_119 : decode cL_mineText 119 = .ok (.iadd, 1) := by decide +kernel
theorem dL_mineText_120 : decode cL_mineText 120 = .ok (.iconst 1, 1) := by decide +kernel
theorem dL_mineText_121 : decode cL_mineText 121 = .ok (.iload 9, 2) := by decide +kernel
theorem dL_mineText_123 : decode cL_mineText 123 = .ok (.bipush 6, 2) := by decide +kernel
theorem dL_mineText_125 : decode cL_mineText 125 = .ok (.ishr, 1) := by decide +kernel
theorem dL_mineText_126 : decode cL_mineText 126 = .ok (.bipush 9, 2) := by decide +kernel
theorem dL_mineText_128 : decode cL_mineText 128 = .ok (.invokestatic 14, 3) := by decide +kernel
theorem dL_mineText_131 : decode cL_mineText 131 = .ok (.iadd, 1) := by decide +kernel
theorem dL_mineText_132 : decode cL_mineText 132 = .ok (.iastore, 1) := by decide +kernel
theorem dL_mineText_133 : decode cL_mineText 133 = .ok (.aload_n 3, 1) := by decide +kernel
theorem dL_mineText_134 : decode cL_mineText 134 = .ok (.bipush 31, 2) := by decide +kernel
theorem dL_mineText_136 : decode cL_mineText 136 = .ok (.iload 8, 2) := by decide +kernel
theorem dL_mineText_138 : decode cL_mineText 138 = .ok (.iadd, 1) := by decide +kernel
theorem dL_mineText_139 : decode cL_mineText 139 = .ok (.iload 9, 2) := by decide +kernel
theorem dL_mineText_141 : decode cL_mineText 141 = .ok (.bipush 10, 2) := by decide +kernel
theorem dL_mineText_143 : decode cL_mineText 143 = .ok (.ishr, 1) := by decide +kernel
theorem dL_mineText_144 : decode cL_mineText 144 = .ok (.iconst 2, 1) := by decide +kernel
theorem dL_mineText_145 : decode cL_mineText 145 = .ok (.invokestatic 14, 3) := by decide +kernel
theorem dL_mineText_148 : decode cL_mineText 148 = .ok (.iastore, 1) := by decide +kernel
theorem dL_mineText_149 : decode cL_mineText 149 = .ok (.aload_n 3, 1) := by decide +kernel
theorem dL_mineText_150 : decode cL_mineText 150 = .ok (.bipush 41, 2) := by decide +kernel
theorem dL_mineText_152 : decode cL_mineText 152 = .ok (.iload 8, 2) := by decide +kernel
theorem dL_mineText_154 : decode cL_mineText 154 = .ok (.iadd, 1) := by decide +kernel
theorem dL_mineText_155 : decode cL_mineText 155 = .ok (.iconst 1, 1) := by decide +kernel
theorem dL_mineText_156 : decode cL_mineText 156 = .ok (.iastore, 1) := by decide +kernel
theorem dL_mineText_157 : decode cL_mineText 157 = .ok (.iload 8, 2) := by decide +kernel
theorem dL_mineText_159 : decode cL_mineText 159 = .ok (.ifCond .le 13, 3) := by decide +kernel
theorem dL_mineText_162 : decode cL_mineText 162 = .ok (.aload 4, 2) := by decide +kernel
theorem dL_mineText_164 : decode cL_mineText 164 = .ok (.iload 6, 2) := by decide +kernel
theorem dL_mineText_166 : decode cL_mineText 166 = .ok (.iinc 6 1, 3) := by decide +kernel
theorem dL_mineText_169 : decode cL_mineText 169 = .ok (.bipush 44, 2) := by decide +kernel
theorem dL_mineText_171 : decode cL_mineText 171 = .ok (.iastore, 1) := by decide +kernel
theorem dL_mineText_172 : decode cL_mineText 172 = .ok (.aload 4, 2) := by decide +kernel
theorem dL_mineText_174 : decode cL_mineText 174 = .ok (.iload 6, 2) := by decide +kernel
theorem dL_mineText_176 : decode cL_mineText 176 = .ok (.iinc 6 1, 3) := by decide +kernel
theorem dL_mineText_179 : decode cL_mineText 179 = .ok (.bipush 48, 2) := by decide +kernel
theorem dL_mineText_181 : decode cL_mineText 181 = .ok (.aload_n 3, 1) := by decide +kernel
theorem dL_mineText_182 : decode cL_mineText 182 = .ok (.iconst 1, 1) := by decide +kernel
theorem dL_mineText_183 : decode cL_mineText 183 = .ok (.iload 8, 2) := by decide +kernel
theorem dL_mineText_185 : decode cL_mineText 185 = .ok (.iadd, 1) := by decide +kernel
theorem dL_mineText_186 : decode cL_mineText 186 = .ok (.iaload, 1) := by decide +kernel
theorem dL_mineText_187 : decode cL_mineText 187 = .ok (.iadd, 1) := by decide +kernel
theorem dL_mineText_188 : decode cL_mineText 188 = .ok (.iastore, 1) := by decide +kernel
theorem dL_mineText_189 : decode cL_mineText 189 = .ok (.aload 4, 2) := by decide +kernel
theorem dL_mineText_191 : decode cL_mineText 191 = .ok (.iload 6, 2) := by decide +kernel
theorem dL_mineText_193 : decode cL_mineText 193 = .ok (.iinc 6 1, 3) := by decide +kernel
theorem dL_mineText_196 : decode cL_mineText 196 = .ok (.bipush 48, 2) := by decide +kernel
theorem dL_mineText_198 : decode cL_mineText 198 = .ok (.aload_n 3, 1) := by decide +kernel
theorem dL_mineText_199 : decode cL_mineText 199 = .ok (.bipush 11, 2) := by decide +kernel
theorem dL_mineText_201 : decode cL_mineText 201 = .ok (.iload 8, 2) := by decide +kernel
theorem dL_mineText_203 : decode cL_mineText 203 = .ok (.iadd, 1) := by decide +kernel
theorem dL_mineText_204 : decode cL_mineText 204 = .ok (.iaload, 1) := by decide +kernel
theorem dL_mineText_205 : decode cL_mineText 205 = .ok (.iadd, 1) := by decide +kernel
theorem dL_mineText_206 : decode cL_mineText 206 = .ok (.iastore, 1) := by decide +kernel
theorem dL_mineText_207 : decode cL_mineText 207 = .ok (.aload 4, 2) := by decide +kernel
theorem dL_mineText_209 : decode cL_mineText 209 = .ok (.iload 6, 2) := by decide +kernel
theorem dL_mineText_211 : decode cL_mineText 211 = .ok (.iinc 6 1, 3) := by decide +kernel
theorem dL_mineText_214 : decode cL_mineText 214 = .ok (.bipush 48, 2) := by decide +kernel
theorem dL_mineText_216 : decode cL_mineText 216 = .ok (.aload_n 3, 1) := by decide +kernel
theorem dL_mineText_217 : decode cL_mineText 217 = .ok (.bipush 21, 2) := by decide +kernel
theorem dL_mineText_219 : decode cL_mineText 219 = .ok (.iload 8, 2) := by decide +kernel
theorem dL_mineText_221 : decode cL_mineText 221 = .ok (.iadd, 1) := by decide +kernel
theorem dL_mineText_222 : decode cL_mineText 222 = .ok (.iaload, 1) := by decide +kernel
theorem dL_mineText_223 : decode cL_mineText 223 = .ok (.iadd, 1) := by decide +kernel
theorem dL_mineText_224 : decode cL_mineText 224 = .ok (.iastore, 1) := by decide +kernel
theorem dL_mineText_225 : decode cL_mineText 225 = .ok (.aload_n 3, 1) := by decide +kernel
theorem dL_mineText_226 : decode cL_mineText 226 = .ok (.bipush 31, 2) := by decide +kernel
theorem dL_mineText_228 : decode cL_mineText 228 = .ok (.iload 8, 2) := by decide +kernel
theorem dL_mineText_230 : decode cL_mineText 230 = .ok (.iadd, 1) := by decide +kernel
theorem dL_mineText_231 : decode cL_mineText 231 = .ok (.iaload, 1) := by decide +kernel
theorem dL_mineText_232 : decode cL_mineText 232 = .ok (.ifCond .le 13, 3) := by decide +kernel
theorem dL_mineText_235 : decode cL_mineText 235 = .ok (.aload 4, 2) := by decide +kernel
theorem dL_mineText_237 : decode cL_mineText 237 = .ok (.iload 6, 2) := by decide +kernel
theorem dL_mineText_239 : decode cL_mineText 239 = .ok (.iinc 6 1, 3) := by decide +kernel
theorem dL_mineText_242 : decode cL_mineText 242 = .ok (.bipush 100, 2) := by decide +kernel
theorem dL_mineText_244 : decode cL_mineText 244 = .ok (.iastore, 1) := by decide +kernel
theorem dL_mineText_245 : decode cL_mineText 245 = .ok (.iinc 8 1, 3) := by decide +kernel
theorem dL_mineText_248 : decode cL_mineText 248 = .ok (.goto (-207), 3) := by decide +kernel
theorem dL_mineText_251 : decode cL_mineText 251 = .ok (.aload 4, 2) := by decide +kernel
theorem dL_mineText_253 : decode cL_mineText 253 = .ok (.iload 6, 2) := by decide +kernel
theorem dL_mineText_255 : decode cL_mineText 255 = .ok (.iinc 6 1, 3) := by decide +kernel
theorem dL_mineText_258 : decode cL_mineText 258 = .ok (.bipush 59, 2) := by decide +kernel
theorem dL_mineText_260 : decode cL_mineText 260 = .ok (.iastore, 1) := by decide +kernel
theorem dL_mineText_261 : decode cL_mineText 261 = .ok (.iconst 2, 1) := by decide +kernel
theorem dL_mineText_262 : decode cL_mineText 262 = .ok (.iload 5, 2) := by decide +kernel
theorem dL_mineText_264 : decode cL_mineText 264 = .ok (.bipush 7, 2) := by decide +kernel
theorem dL_mineText_266 : decode cL_mineText 266 = .ok (.ishr, 1) := by decide +kernel
theorem dL_mineText_267 : decode cL_mineText 267 = .ok (.iload 5, 2) := by decide +kernel
theorem dL_mineText_269 : decode cL_mineText 269 = .ok (.bipush 12, 2) := by decide +kernel
theorem dL_mineText_271 : decode cL_mineText 271 = .ok (.ishr, 1) := by decide +kernel
theorem dL_mineText_272 : decode cL_mineText 272 = .ok (.iconst 3, 1) := by decide +kernel
theorem dL_mineText_273 : decode cL_mineText 273 = .ok (.invokestatic 14, 3) := by decide +kernel
theorem dL_mineText_276 : decode cL_mineText 276 = .ok (.ifCond .ne 8, 3) := by decide +kernel
theorem dL_mineText_279 : decode cL_mineText 279 = .ok (.bipush 6, 2) := by decide +kernel
theorem dL_mineText_281 : decode cL_mineText 281 = .ok (.goto 4, 3) := by decide +kernel
theorem dL_mineText_284 : decode cL_mineText 284 = .ok (.iconst 2, 1) := by decide +kernel
theorem dL_mineText_285 : decode cL_mineText 285 = .ok (.invokestatic 14, 3) := by decide +kernel
theorem dL_mineText_288 : decode cL_mineText 288 = .ok (.iadd, 1) := by decide +kernel
theorem dL_mineText_289 : decode cL_mineText 289 = .ok (.istore 8, 2) := by decide +kernel
theorem dL_mineText_291 : decode cL_mineText 291 = .ok (.iconst 0, 1) := by decide +kernel
theorem dL_mineText_292 : decode cL_mineText 292 = .ok (.istore 9, 2) := by decide +kernel
theorem dL_mineText_294 : decode cL_mineText 294 = .ok (.iload 9, 2) := by decide +kernel
theorem dL_mineText_296 : decode cL_mineText 296 = .ok (.bipush 7, 2) := by decide +kernel
theorem dL_mineText_298 : decode cL_mineText 298 = .ok (.if_icmp .ge 17, 3) := by decide +kernel
theorem dL_mineText_301 : decode cL_mineText 301 = .ok (.aload_n 3, 1) := by decide +kernel
theorem dL_mineText_302 : decode cL_mineText 302 = .ok (.bipush 52, 2) := by decide +kernel
theorem dL_mineText_304 : decode cL_mineText 304 = .ok (.iload 9, 2) := by decide +kernel
theorem dL_mineText_306 : decode cL_mineText 306 = .ok (.iadd, 1) := by decide +kernel
theorem dL_mineText_307 : decode cL_mineText 307 = .ok (.iconst 0, 1) := by decide +kernel
theorem dL_mineText_308 : decode cL_mineText 308 = .ok (.iastore, 1) := by decide +kernel
theorem dL_mineText_309 : decode cL_mineText 309 = .ok (.iinc 9 1, 3) := by decide +kernel
theorem dL_mineText_312 : decode cL_mineText 312 = .ok (.goto (-18), 3) := by decide +kernel
theorem dL_mineText_315 : decode cL_mineText 315 = .ok (.iconst 0, 1) := by decide +kernel
theorem dL_mineText_316 : decode cL_mineText 316 = .ok (.istore 9, 2) := by decide +kernel
theorem dL_mineText_318 : decode cL_mineText 318 = .ok (.iload 9, 2) := by decide +kernel
theorem dL_mineText_320 : decode cL_mineText 320 = .ok (.iload 8, 2) := by decide +kernel
theorem dL_mineText_322 : decode cL_mineText 322 = .ok (.if_icmp .ge 106, 3) := by decide +kernel
theorem dL_mineText_325 : decode cL_mineText 325 = .ok (.iload 5, 2) := by decide +kernel
theorem dL_mineText_327 : decode cL_mineText 327 = .ok (.bipush 13, 2) := by decide +kernel
theorem dL_mineText_329 : decode cL_mineText 329 = .ok (.iconst 2, 1) := by decide +kernel
theorem dL_mineText_330 : decode cL_mineText 330 = .ok (.iload 9, 2) := by decide +kernel
theorem dL_mineText_332 : decode cL_mineText 332 = .ok (.imul, 1) := by decide +kernel
theorem dL_mineText_333 : decode cL_mineText 333 = .ok (.iadd, 1) := by decide +kernel
theorem dL_mineText_334 : decode cL_mineText 334 = .ok (.ishr, 1) := by decide +kernel
theorem dL_mineText_335 : decode cL_mineText 335 = .ok (.bipush 7, 2) := by decide +kernel
theorem dL_mineText_337 : decode cL_mineText 337 = .ok (.invokestatic 14, 3) := by decide +kernel
theorem dL_mineText_340 : decode cL_mineText 340 = .ok (.istore 10, 2) := by decide +kernel
theorem dL_mineText_342 : decode cL_mineText 342 = .ok (.aload_n 3, 1) := by decide +kernel
theorem dL_mineText_343 : decode cL_mineText 343 = .ok (.bipush 52, 2) := by decide +kernel
theorem dL_mineText_345 : decode cL_mineText 345 = .ok (.iload 10, 2) := by decide +kernel
theorem dL_mineText_347 : decode cL_mineText 347 = .ok (.iadd, 1) := by decide +kernel
theorem dL_mineText_348 : decode cL_mineText 348 = .ok (.iaload, 1) := by decide +kernel
theorem dL_mineText_349 : decode cL_mineText 349 = .ok (.ifCond .le 15, 3) := by decide +kernel
theorem dL_mineText_352 : decode cL_mineText 352 = .ok (.iload 10, 2) := by decide +kernel
theorem dL_mineText_354 : decode cL_mineText 354 = .ok (.iconst 1, 1) := by decide +kernel
theorem dL_mineText_355 : decode cL_mineText 355 = .ok (.iadd, 1) := by decide +kernel
theorem dL_mineText_356 : decode cL_mineText 356 = .ok (.bipush 7, 2) := by decide +kernel
theorem dL_mineText_358 : decode cL_mineText 358 = .ok (.irem, 1) := by decide +kernel
theorem dL_mineText_359 : decode cL_mineText 359 = .ok (.istore 10, 2) := by decide +kernel
theorem dL_mineText_361 : decode cL_mineText 361 = .ok (.goto (-19), 3) := by decide +kernel
theorem dL_mineText_364 : decode cL_mineText 364 = .ok (.aload_n 3, 1) := by decide +kernel
theorem dL_mineText_365 : decode cL_mineText 365 = .ok (.bipush 52, 2) := by decide +kernel
theorem dL_mineText_367 : decode cL_mineText 367 = .ok (.iload 10, 2) := by decide +kernel
theorem dL_mineText_369 : decode cL_mineText 369 = .ok (.iadd, 1) := by decide +kernel
theorem dL_mineText_370 : decode cL_mineText 370 = .ok (.iconst 1, 1) := by decide +kernel
theorem dL_mineText_371 : decode cL_mineText 371 = .ok (.aload_n 0, 1) := by decide +kernel
theorem dL_mineText_372 : decode cL_mineText 372 = .ok (.iload_n 1, 1) := by decide +kernel
theorem dL_mineText_373 : decode cL_mineText 373 = .ok (.bipush 6, 2) := by decide +kernel
theorem dL_mineText_375 : decode cL_mineText 375 = .ok (.iadd, 1) := by decide +kernel
theorem dL_mineText_376 : decode cL_mineText 376 = .ok (.invokestatic 8, 3) := by decide +kernel
theorem dL_mineText_379 : decode cL_mineText 379 = .ok (.iconst 4, 1) := by decide +kernel
theorem dL_mineText_380 : decode cL_mineText 380 = .ok (.iload 9, 2) := by decide +kernel
theorem dL_mineText_382 : decode cL_mineText 382 = .ok (.imul, 1) := by decide +kernel
theorem dL_mineText_383 : decode cL_mineText 383 = .ok (.ishr, 1) := by decide +kernel
theorem dL_mineText_384 : decode cL_mineText 384 = .ok (.bipush 10, 2) := by decide +kernel
theorem dL_mineText_386 : decode cL_mineText 386 = .ok (.invokestatic 14, 3) := by decide +kernel
theorem dL_mineText_389 : decode cL_mineText 389 = .ok (.iadd, 1) := by decide +kernel
theorem dL_mineText_390 : decode cL_mineText 390 = .ok (.iastore, 1) := by decide +kernel
theorem dL_mineText_391 : decode cL_mineText 391 = .ok (.aload 4, 2) := by decide +kernel
theorem dL_mineText_393 : decode cL_mineText 393 = .ok (.iload 6, 2) := by decide +kernel
theorem dL_mineText_395 : decode cL_mineText 395 = .ok (.iinc 6 1, 3) := by decide +kernel
theorem dL_mineText_398 : decode cL_mineText 398 = .ok (.bipush 48, 2) := by decide +kernel
theorem dL_mineText_400 : decode cL_mineText 400 = .ok (.iload 10, 2) := by decide +kernel
theorem dL_mineText_402 : decode cL_mineText 402 = .ok (.iadd, 1) := by decide +kernel
theorem dL_mineText_403 : decode cL_mineText 403 = .ok (.iastore, 1) := by decide +kernel
theorem dL_mineText_404 : decode cL_mineText 404 = .ok (.aload 4, 2) := by decide +kernel
theorem dL_mineText_406 : decode cL_mineText 406 = .ok (.iload 6, 2) := by decide +kernel
theorem dL_mineText_408 : decode cL_mineText 408 = .ok (.iinc 6 1, 3) := by decide +kernel
theorem dL_mineText_411 : decode cL_mineText 411 = .ok (.bipush 47, 2) := by decide +kernel
theorem dL_mineText_413 : decode cL_mineText 413 = .ok (.aload_n 3, 1) := by decide +kernel
theorem dL_mineText_414 : decode cL_mineText 414 = .ok (.bipush 52, 2) := by decide +kernel
theorem dL_mineText_416 : decode cL_mineText 416 = .ok (.iload 10, 2) := by decide +kernel
theorem dL_mineText_418 : decode cL_mineText 418 = .ok (.iadd, 1) := by decide +kernel
theorem dL_mineText_419 : decode cL_mineText 419 = .ok (.iaload, 1) := by decide +kernel
theorem dL_mineText_420 : decode cL_mineText 420 = .ok (.iadd, 1) := by decide +kernel
theorem dL_mineText_421 : decode cL_mineText 421 = .ok (.iastore, 1) := by decide +kernel
theorem dL_mineText_422 : decode cL_mineText 422 = .ok (.iinc 9 1, 3) := by decide +kernel
theorem dL_mineText_425 : decode cL_mineText 425 = .ok (.goto (-107), 3) := by decide +kernel
theorem dL_mineText_428 : decode cL_mineText 428 = .ok (.iload 6, 2) := by decide +kernel
theorem dL_mineText_430 : decode cL_mineText 430 = .ok (.ireturn, 1) := by decide +kernel
set_option maxRecDepth 20000 in
theorem ggL_write_X10_letters : GoodIn wsL_write wsX10_letters := goodIn_r _ [5, 6, 7, 8, 9, 10, 11, 12, 13, 14, 15, 16, 17, 18, 19, 20, 21, 22, 23, 24, 25, 26, 27, 28, 29, 30, 31, 32, 33, 34, 35, 36, 37, 38, 39, 40, 41, 42, 43, 44, 45, 46] (by decide +kernel) (by decide +kernel)
set_option maxRecDepth 20000 in
theorem gL_write_X10_letters : GoodIn wsL_write (wsV RL 18 RX10 yX10_letters wsX10_letters) := goodIn_app (goodIn_of _ (by decide +kernel)) ggL_write_X10_letters
theorem dL_write_0 : decode cL_write 0 = .ok (.iconst 0, 1) := by decide +kernel
theorem dL_write_1 : decode cL_write 1 = .ok (.istore_n 3, 1) := by decide +kernel
theorem dL_write_2 : decode cL_write 2 = .ok (.iload_n 3, 1) := by decide +kernel
theorem dL_write_3 : decode cL_write 3 = .ok (.iload_n 2, 1) := by decide +kernel
theorem dL_write_4 : decode cL_write 4 = .ok (.if_icmp .ge 25, 3) := by decide +kernel
theorem dL_write_7 : decode cL_write 7 = .ok (.aload_n 0, 1) := by decide +kernel
theorem dL_write_8 : decode cL_write 8 = .ok (.aload_n 1, 1) := by decide +kernel
theorem dL_write_9 : decode cL_write 9 = .ok (.iload_n 3, 1) := by decide +kernel
theorem dL_write_10 : decode cL_write 10 = .ok (.iaload, 1) := by decide +kernel
theorem dL_write_11 : decode cL_write 11 = .ok (.i2l, 1) := by decide +kernel
theorem dL_write_12 : decode cL_write 12 = .ok (.invokevirtual 18, 3) := by decide +kernel
theorem dL_write_15 : decode cL_write 15 = .ok (.iload_n 3, 1) := by decide +kernel
theorem dL_write_16 : decode cL_write 16 = .ok (.iconst 1, 1) := by decide +kernel
theorem dL_write_17 : decode cL_write 17 = .ok (.iadd, 1) := by decide +kernel
theorem dL_write_18 : decode cL_write 18 = .ok (.if_icmp .eq 5, 3) := by decide +kernel
theorem dL_write_21 : decode cL_write 21 = .ok (.iconst 0, 1) := by decide +kernel
theorem dL_write_22 : decode cL_write 22 = .ok (.ireturn, 1) := by decide +kernel
theorem dL_write_23 : decode cL_write 23 = .ok (.iinc 3 1, 3) := by decide +kernel
theorem dL_write_26 : decode cL_write 26 = .ok (.goto (-24), 3) := by decide +kernel
theorem dL_write_29 : decode cL_write 29 = .ok (.iconst 1, 1) := by decide +kernel
theorem dL_write_30 : decode cL_write 30 = .ok (.ireturn, 1) := by decide +kernel
set_option maxRecDepth 20000 in
theorem ggL_men_L_cell : GoodIn wsL_men wsL_cell := goodIn_r _ [4, 5] (by decide +kernel) (by decide +kernel)
set_option maxRecDepth 20000 in
theorem gL_men_L_cell : GoodIn wsL_men (va_wsS RL 8 yL_cell wsL_cell) := goodIn_app (goodIn_of _ (by decide +kernel)) ggL_men_L_cell
set_option maxRecDepth 20000 in
theorem ggL_men_L_at : GoodIn wsL_men wsL_at := goodIn_r _ [8] (by decide +kernel) (by decide +kernel)
set_option maxRecDepth 20000 in
theorem gL_men_L_at : GoodIn wsL_men (va_wsS RL 14 yL_at wsL_at) := goodIn_app (goodIn_of _ (by decide +kernel)) ggL_men_L_at
set_option maxRecDepth 20000 in
theorem ggL_men_X10_man : GoodIn wsL_men wsX10_man := goodIn_r _ [13, 14, 15, 16, 17, 18, 19, 20, 21, 22, 23, 24, 25, 26, 27, 28, 29, 30, 31, 12, 32, 33, 34, 35, 36, 37, 38, 39, 40, 41, 42, 43, 44, 45, 46, 47, 48, 49, 50, 51, 52, 53, 54, 55, 56, 57, 58, 59, 60, 61, 62, 63, 64, 65, 66, 67, 68, 69] (by decide +kernel) (by decide +kernel)
set_option maxRecDepth 20000 in
theorem gL_men_X10_man : GoodIn wsL_men (wsV RL 24 RX10 yX10_man wsX10_man) := goodIn_app (goodIn_of _ (by decide +kernel)) ggL_men_X10_man
theorem dL_men_0 : decode cL_men 0 = .ok (.aload_n 1, 1) := by decide +kernel
theorem dL_men_1 : decode cL_men 1 = .ok (.iload_n 2, 1) := by decide +kernel
theorem dL_men_2 : decode cL_men 2 = .ok (.invokestatic 8, 3) := by decide +kernel
theorem dL_men_5 : decode cL_men 5 = .ok (.iload_n 3, 1) := by decide +kernel
theorem dL_men_6 : decode cL_men 6 = .ok (.iconst 1, 1) := by decide +kernel
theorem dL_men_7 : decode cL_men 7 = .ok (.iadd, 1) := by decide +kernel
theorem dL_men_8 : decode cL_men 8 = .ok (.invokestatic 14, 3) := by decide +kernel
theorem dL_men_11 : decode cL_men 11 = .ok (.istore 5, 2) := by decide +kernel
theorem dL_men_13 : decode cL_men 13 = .ok (.aload 4, 2) := by decide +kernel
theorem dL_men_15 : decode cL_men 15 = .ok (.bipush 20, 2) := by decide +kernel
theorem dL_men_17 : decode cL_men 17 = .ok (.iconst 0, 1) := by decide +kernel
theorem dL_men_18 : decode cL_men 18 = .ok (.iastore, 1) := by decide +kernel
theorem dL_men_19 : decode cL_men 19 = .ok (.iconst 0, 1) := by decide +kernel
theorem dL_men_20 : decode cL_men 20 = .ok (.istore 6, 2) := by decide +kernel
theorem dL_men_22 : decode cL_men 22 = .ok (.iload 6, 2) := by decide +kernel
theorem dL_men_24 : decode cL_men 24 = .ok (.iload 5, 2) := by decide +kernel
theorem dL_men_26 : decode cL_men 26 = .ok (.if_icmp .ge 94, 3) := by decide +kernel
theorem dL_men_29 : decode cL_men 29 = .ok (.aload 4, 2) := by decide +kernel
theorem dL_men_31 : decode cL_men 31 = .ok (.bipush 7, 2) := by decide +kernel
theorem dL_men_33 : decode cL_men 33 = .ok (.iload 6, 2) := by decide +kernel
theorem dL_men_35 : decode cL_men 35 = .ok (.iadd, 1) := by decide +kernel
theorem dL_men_36 : decode cL_men 36 = .ok (.aload_n 1, 1) := by decide +kernel
theorem dL_men_37 : decode cL_men 37 = .ok (.iload_n 2, 1) := by decide +kernel
theorem dL_men_38 : decode cL_men 38 = .ok (.invokestatic 8, 3) := by decide +kernel
theorem dL_men_41 : decode cL_men 41 = .ok (.iconst 3, 1) := by decide +kernel
theorem dL_men_42 : decode cL_men 42 = .ok (.iconst 4, 1) := by decide +kernel
theorem dL_men_43 : decode cL_men 43 = .ok (.iload 6, 2) := by decide +kernel
theorem dL_men_45 : decode cL_men 45 = .ok (.imul, 1) := by decide +kernel
theorem dL_men_46 : decode cL_men 46 = .ok (.iadd, 1) := by decide +kernel
theorem dL_men_47 : decode cL_men 47 = .ok (.ishr, 1) := by decide +kernel
theorem dL_men_48 : decode cL_men 48 = .ok (.iconst 5, 1) := by decide +kernel
theorem dL_men_49 : decode cL_men 49 = .ok (.invokestatic 14, 3) := by decide +kernel
theorem dL_men_52 : decode cL_men 52 = .ok (.iastore, 1) := by decide +kernel
theorem dL_men_53 : decode cL_men 53 = .ok (.aload 4, 2) := by decide +kernel
theorem dL_men_55 : decode cL_men 55 = .ok (.bipush 13, 2) := by decide +kernel
theorem dL_men_57 : decode cL_men 57 = .ok (.iload 6, 2) := by decide +kernel
theorem dL_men_59 : decode cL_men 59 = .ok (.iadd, 1) := by decide +kernel
theorem dL_men_60 : decode cL_men 60 = .ok (.aload_n 1, 1) := by decide +kernel
theorem dL_men_61 : decode cL_men 61 = .ok (.iload_n 2, 1) := by decide +kernel
theorem dL_men_62 : decode cL_men 62 = .ok (.iconst 1, 1) := by decide +kernel
theorem dL_men_63 : decode cL_men 63 = .ok (.iadd, 1) := by decide +kernel
theorem dL_men_64 : decode cL_men 64 = .ok (.invokestatic 8, 3) := by decide +kernel
theorem dL_men_67 : decode cL_men 67 = .ok (.iconst 4, 1) := by decide +kernel
theorem dL_men_68 : decode cL_men 68 = .ok (.iload 6, 2) := by decide +kernel
theorem dL_men_70 : decode cL_men 70 = .ok (.imul, 1) := by decide +kernel
theorem dL_men_71 : decode cL_men 71 = .ok (.ishr, 1) := by decide +kernel
theorem dL_men_72 : decode cL_men 72 = .ok (.bipush 7, 2) := by decide +kernel
theorem dL_men_74 : decode cL_men 74 = .ok (.invokestatic 14, 3) := by decide +kernel
theorem dL_men_77 : decode cL_men 77 = .ok (.iastore, 1) := by decide +kernel
theorem dL_men_78 : decode cL_men 78 = .ok (.aload_n 0, 1) := by decide +kernel
theorem dL_men_79 : decode cL_men 79 = .ok (.aload 4, 2) := by decide +kernel
theorem dL_men_81 : decode cL_men 81 = .ok (.bipush 7, 2) := by decide +kernel
theorem dL_men_83 : decode cL_men 83 = .ok (.iload 6, 2) := by decide +kernel
theorem dL_men_85 : decode cL_men 85 = .ok (.iadd, 1) := by decide +kernel
theorem dL_men_86 : decode cL_men 86 = .ok (.iaload, 1) := by decide +kernel
theorem dL_men_87 : decode cL_men 87 = .ok (.aload 4, 2) := by decide +kernel
theorem dL_men_89 : decode cL_men 89 = .ok (.bipush 13, 2) := by decide +kernel
theorem dL_men_91 : decode cL_men 91 = .ok (.iload 6, 2) := by decide +kernel
theorem dL_men_93 : decode cL_men 93 = .ok (.iadd, 1) := by decide +kernel
theorem dL_men_94 : decode cL_men 94 = .ok (.iaload, 1) := by decide +kernel
theorem dL_men_95 : decode cL_men 95 = .ok (.invokevirtual 24, 3) := by decide +kernel
theorem dL_men_98 : decode cL_men 98 = .ok (.iload 6, 2) := by decide +kernel
theorem dL_men_100 : decode cL_men 100 = .ok (.if_icmp .eq 5, 3) := by decide +kernel
theorem dL_men_103 : decode cL_men 103 = .ok (.iconst 0, 1) := by decide +kernel
theorem dL_men_104 : decode cL_men 104 = .ok (.ireturn, 1) := by decide +kernel
theorem dL_men_105 : decode cL_men 105 = .ok (.aload 4, 2) := by decide +kernel
theorem dL_men_107 : decode cL_men 107 = .ok (.bipush 20, 2) := by decide +kernel
theorem dL_men_109 : decode cL_men 109 = .ok (.dup2, 1) := by decide +kernel
theorem dL_men_110 : decode cL_men 110 = .ok (.iaload, 1) := by decide +kernel
theorem dL_men_111 : decode cL_men 111 = .ok (.iconst 1, 1) := by decide +kernel
theorem dL_men_112 : decode cL_men 112 = .ok (.iadd, 1) := by decide +kernel
theorem dL_men_113 : decode cL_men 113 = .ok (.iastore, 1) := by decide +kernel
theorem dL_men_114 : decode cL_men 114 = .ok (.iinc 6 1, 3) := by decide +kernel
theorem dL_men_117 : decode cL_men 117 = .ok (.goto (-95), 3) := by decide +kernel
theorem dL_men_120 : decode cL_men 120 = .ok (.iconst 1, 1) := by decide +kernel
theorem dL_men_121 : decode cL_men 121 = .ok (.ireturn, 1) := by decide +kernel
theorem dL_shaft_0 : decode cL_shaft 0 = .ok (.bipush 12, 2) := by decide +kernel
theorem dL_shaft_2 : decode cL_shaft 2 = .ok (.aload_n 0, 1) := by decide +kernel
theorem dL_shaft_3 : decode cL_shaft 3 = .ok (.bipush 51, 2) := by decide +kernel
theorem dL_shaft_5 : decode cL_shaft 5 = .ok (.iaload, 1) := by decide +kernel
theorem dL_shaft_6 : decode cL_shaft 6 = .ok (.iconst 1, 1) := by decide +kernel
theorem dL_shaft_7 : decode cL_shaft 7 = .ok (.if_icmp .ne 15, 3) := by decide +kernel
theorem dL_shaft_10 : decode cL_shaft 10 = .ok (.bipush 10, 2) := by decide +kernel
theorem dL_shaft_12 : decode cL_shaft 12 = .ok (.aload_n 0, 1) := by decide +kernel
theorem dL_shaft_13 : decode cL_shaft 13 = .ok (.bipush 52, 2) := by decide +kernel
theorem dL_shaft_15 : decode cL_shaft 15 = .ok (.iload_n 1, 1) := by decide +kernel
theorem dL_shaft_16 : decode cL_shaft 16 = .ok (.iadd, 1) := by decide +kernel
theorem dL_shaft_17 : decode cL_shaft 17 = .ok (.iaload, 1) := by decide +kernel
theorem dL_shaft_18 : decode cL_shaft 18 = .ok (.isub, 1) := by decide +kernel
theorem dL_shaft_19 : decode cL_shaft 19 = .ok (.goto 11, 3) := by decide +kernel
theorem dL_shaft_22 : decode cL_shaft 22 = .ok (.aload_n 0, 1) := by decide +kernel
theorem dL_shaft_23 : decode cL_shaft 23 = .ok (.bipush 52, 2) := by decide +kernel
theorem dL_shaft_25 : decode cL_shaft 25 = .ok (.iload_n 1, 1) := by decide +kernel
theorem dL_shaft_26 : decode cL_shaft 26 = .ok (.iadd, 1) := by decide +kernel
theorem dL_shaft_27 : decode cL_shaft 27 = .ok (.iaload, 1) := by decide +kernel
theorem dL_shaft_28 : decode cL_shaft 28 = .ok (.iconst 1, 1) := by decide +kernel
theorem dL_shaft_29 : decode cL_shaft 29 = .ok (.isub, 1) := by decide +kernel
theorem dL_shaft_30 : decode cL_shaft 30 = .ok (.imul, 1) := by decide +kernel
theorem dL_shaft_31 : decode cL_shaft 31 = .ok (.ireturn, 1) := by decide +kernel
set_option maxRecDepth 20000 in
theorem ggL_height_L_shaft : GoodIn wsL_height wsL_shaft := goodIn_r _ [4] (by decide +kernel) (by decide +kernel)
set_option maxRecDepth 20000 in
theorem gL_height_L_shaft : GoodIn wsL_height (va_wsS RL 27 yL_shaft wsL_shaft) := goodIn_app (goodIn_of _ (by decide +kernel)) ggL_height_L_shaft
theorem dL_height_0 : decode cL_height 0 = .ok (.aload_n 0, 1) := by decide +kernel
theorem dL_height_1 : decode cL_height 1 = .ok (.bipush 52, 2) := by decide +kernel
theorem dL_height_3 : decode cL_height 3 = .ok (.iload_n 1, 1) := by decide +kernel
theorem dL_height_4 : decode cL_height 4 = .ok (.iadd, 1) := by decide +kernel
theorem dL_height_5 : decode cL_height 5 = .ok (.iaload, 1) := by decide +kernel
theorem dL_height_6 : decode cL_height 6 = .ok (.ifCond .le 9, 3) := by decide +kernel
theorem dL_height_9 : decode cL_height 9 = .ok (.aload_n 0, 1) := by decide +kernel
theorem dL_height_10 : decode cL_height 10 = .ok (.iload_n 1, 1) := by decide +kernel
theorem dL_height_11 : decode cL_height 11 = .ok (.invokestatic 27, 3) := by decide +kernel
theorem dL_height_14 : decode cL_height 14 = .ok (.ireturn, 1) := by decide +kernel
theorem dL_height_15 : decode cL_height 15 = .ok (.iconst 1, 1) := by decide +kernel
theorem dL_height_16 : decode cL_height 16 = .ok (.iload_n 1, 1) := by decide +kernel
theorem dL_height_17 : decode cL_height 17 = .ok (.ishl, 1) := by decide +kernel
theorem dL_height_18 : decode cL_height 18 = .ok (.istore_n 2, 1) := by decide +kernel
theorem dL_height_19 : decode cL_height 19 = .ok (.iconst 0, 1) := by decide +kernel
theorem dL_height_20 : decode cL_height 20 = .ok (.istore_n 3, 1) := by decide +kernel
theorem dL_height_21 : decode cL_height 21 = .ok (.iload_n 3, 1) := by decide +kernel
theorem dL_height_22 : decode cL_height 22 = .ok (.bipush 7, 2) := by decide +kernel
theorem dL_height_24 : decode cL_height 24 = .ok (.if_icmp .ge 171, 3) := by decide +kernel
theorem dL_height_27 : decode cL_height 27 = .ok (.iload_n 2, 1) := by decide +kernel
theorem dL_height_28 : decode cL_height 28 = .ok (.istore 4, 2) := by decide +kernel
theorem dL_height_30 : decode cL_height 30 = .ok (.iconst 0, 1) := by decide +kernel
theorem dL_height_31 : decode cL_height 31 = .ok (.istore 5, 2) := by decide +kernel
theorem dL_height_33 : decode cL_height 33 = .ok (.iload 5, 2) := by decide +kernel
theorem dL_height_35 : decode cL_height 35 = .ok (.aload_n 0, 1) := by decide +kernel
theorem dL_height_36 : decode cL_height 36 = .ok (.iconst 0, 1) := by decide +kernel
theorem dL_height_37 : decode cL_height 37 = .ok (.iaload, 1) := by decide +kernel
theorem dL_height_38 : decode cL_height 38 = .ok (.if_icmp .ge 78, 3) := by decide +kernel
theorem dL_height_41 : decode cL_height 41 = .ok (.aload_n 0, 1) := by decide +kernel
theorem dL_height_42 : decode cL_height 42 = .ok (.bipush 41, 2) := by decide +kernel
theorem dL_height_44 : decode cL_height 44 = .ok (.iload 5, 2) := by decide +kernel
theorem dL_height_46 : decode cL_height 46 = .ok (.iadd, 1) := by decide +kernel
theorem dL_height_47 : decode cL_height 47 = .ok (.iaload, 1) := by decide +kernel
theorem dL_height_48 : decode cL_height 48 = .ok (.ifCond .ne 6, 3) := by decide +kernel
theorem dL_height_51 : decode cL_height 51 = .ok (.goto 59, 3) := by decide +kernel
theorem dL_height_54 : decode cL_height 54 = .ok (.iload_n 2, 1) := by decide +kernel
theorem dL_height_55 : decode cL_height 55 = .ok (.aload_n 0, 1) := by decide +kernel
theorem dL_height_56 : decode cL_height 56 = .ok (.iconst 1, 1) := by decide +kernel
theorem dL_height_57 : decode cL_height 57 = .ok (.iload 5, 2) := by decide +kernel
theorem dL_height_59 : decode cL_height 59 = .ok (.iadd, 1) := by decide +kernel
theorem dL_height_60 : decode cL_height 60 = .ok (.iaload, 1) := by decide +kernel
theorem dL_height_61 : decode cL_height 61 = .ok (.ishr, 1) := by decide +kernel
theorem dL_height_62 : decode cL_height 62 = .ok (.iconst 1, 1) := by decide +kernel
theorem dL_height_63 : decode cL_height 63 = .ok (.iand, 1) := by decide +kernel
theorem dL_height_64 : decode cL_height 64 = .ok (.iconst 1, 1) := by decide +kernel
theorem dL_height_65 : decode cL_height 65 = .ok (.if_icmp .ne 17, 3) := by decide +kernel
theorem dL_height_68 : decode cL_height 68 = .ok (.iload 4, 2) := by decide +kernel
theorem dL_height_70 : decode cL_height 70 = .ok (.iconst 1, 1) := by decide +kernel
theorem dL_height_71 : decode cL_height 71 = .ok (.aload_n 0, 1) := by decide +kernel
theorem dL_height_72 : decode cL_height 72 = .ok (.bipush 11, 2) := by decide +kernel
theorem dL_height_74 : decode cL_height 74 = .ok (.iload 5, 2) := by decide +kernel
theorem dL_height_76 : decode cL_height 76 = .ok (.iadd, 1) := by decide +kernel
theorem dL_height_77 : decode cL_height 77 = .ok (.iaload, 1) := by decide +kernel
theorem dL_height_78 : decode cL_height 78 = .ok (.ishl, 1) := by decide +kernel
theorem dL_height_79 : decode cL_height 79 = .ok (.ior, 1) := by decide +kernel
theorem dL_height_80 : decode cL_height 80 = .ok (.istore 4, 2) := by decide +kernel
theorem dL_height_82 : decode cL_height 82 = .ok (.iload_n 2, 1) := by decide +kernel
theorem dL_height_83 : decode cL_height 83 = .ok (.aload_n 0, 1) := by decide +kernel
theorem dL_height_84 : decode cL_height 84 = .ok (.bipush 11, 2) := by decide +kernel
theorem dL_height_86 : decode cL_height 86 = .ok (.iload 5, 2) := by decide +kernel
theorem dL_height_88 : decode cL_height 88 = .ok (.iadd, 1) := by decide +kernel
theorem dL_height_89 : decode cL_height 89 = .ok (.iaload, 1) := by decide +kernel
theorem dL_height_90 : decode cL_height 90 = .ok (.ishr, 1) := by decide +kernel
theorem dL_height_91 : decode cL_height 91 = .ok (.iconst 1, 1) := by decide +kernel
theorem dL_height_92 : decode cL_height 92 = .ok (.iand, 1) := by decide +kernel
theorem dL_height_93 : decode cL_height 93 = .ok (.iconst 1, 1) := by decide +kernel
theorem dL_height_94 : decode cL_height 94 = .ok (.if_icmp .ne 16, 3) := by decide +kernel
theorem dL_height_97 : decode cL_height 97 = .ok (.iload 4, 2) := by decide +kernel
theorem dL_height_99 : decode cL_height 99 = .ok (.iconst 1, 1) := by decide +kernel
theorem dL_height_100 : decode cL_height 100 = .ok (.aload_n 0, 1) := by decide +kernel
theorem dL_height_101 : decode cL_height 101 = .ok (.iconst 1, 1) := by decide +kernel
theorem dL_height_102 : decode cL_height 102 = .ok (.iload 5, 2) := by decide +kernel
theorem dL_height_104 : decode cL_height 104 = .ok (.iadd, 1) := by decide +kernel
theorem dL_height_105 : decode cL_height 105 = .ok (.iaload, 1) := by decide +kernel
theorem dL_height_106 : decode cL_height 106 = .ok (.ishl, 1) := by decide +kernel
theorem dL_height_107 : decode cL_height 107 = .ok (.ior, 1) := by decide +kernel
theorem dL_height_108 : decode cL_height 108 = .ok (.istore 4, 2) := by decide +kernel
theorem dL_height_110 : decode cL_height 110 = .ok (.iinc 5 1, 3) := by decide +kernel
theorem dL_height_113 : decode cL_height 113 = .ok (.goto (-80), 3) := by decide +kernel
theorem dL_height_116 : decode cL_height 116 = .ok (.iconst 0, 1) := by decide +kernel
theorem dL_height_117 : decode cL_height 117 = .ok (.istore 5, 2) := by decide +kernel
theorem dL_height_119 : decode cL_height 119 = .ok (.iconst 0, 1) := by decide +kernel
theorem dL_height_120 : decode cL_height 120 = .ok (.istore 6, 2) := by decide +kernel
theorem dL_height_122 : decode cL_height 122 = .ok (.iconst 0, 1) := by decide +kernel
theorem dL_height_123 : decode cL_height 123 = .ok (.istore 7, 2) := by decide +kernel
theorem dL_height_125 : decode cL_height 125 = .ok (.iload 7, 2) := by decide +kernel
theorem dL_height_127 : decode cL_height 127 = .ok (.bipush 7, 2) := by decide +kernel
theorem dL_height_129 : decode cL_height 129 = .ok (.if_icmp .ge 46, 3) := by decide +kernel
theorem dL_height_132 : decode cL_height 132 = .ok (.iload 4, 2) := by decide +kernel
theorem dL_height_134 : decode cL_height 134 = .ok (.iload 7, 2) := by decide +kernel
theorem dL_height_136 : decode cL_height 136 = .ok (.ishr, 1) := by decide +kernel
theorem dL_height_137 : decode cL_height 137 = .ok (.iconst 1, 1) := by decide +kernel
theorem dL_height_138 : decode cL_height 138 = .ok (.iand, 1) := by decide +kernel
theorem dL_height_139 : decode cL_height 139 = .ok (.ifCond .eq 30, 3) := by decide +kernel
theorem dL_height_142 : decode cL_height 142 = .ok (.aload_n 0, 1) := by decide +kernel
theorem dL_height_143 : decode cL_height 143 = .ok (.bipush 52, 2) := by decide +kernel
theorem dL_height_145 : decode cL_height 145 = .ok (.iload 7, 2) := by decide +kernel
theorem dL_height_147 : decode cL_height 147 = .ok (.iadd, 1) := by decide +kernel
theorem dL_height_148 : decode cL_height 148 = .ok (.iaload, 1) := by decide +kernel
theorem dL_height_149 : decode cL_height 149 = .ok (.ifCond .ne 6, 3) := by decide +kernel
theorem dL_height_152 : decode cL_height 152 = .ok (.goto 17, 3) := by decide +kernel
theorem dL_height_155 : decode cL_height 155 = .ok (.iinc 5 1, 3) := by decide +kernel
theorem dL_height_158 : decode cL_height 158 = .ok (.iload 6, 2) := by decide +kernel
theorem dL_height_160 : decode cL_height 160 = .ok (.aload_n 0, 1) := by decide +kernel
theorem dL_height_161 : decode cL_height 161 = .ok (.iload 7, 2) := by decide +kernel
theorem dL_height_163 : decode cL_height 163 = .ok (.invokestatic 27, 3) := by decide +kernel
theorem dL_height_166 : decode cL_height 166 = .ok (.iadd, 1) := by decide +kernel
theorem dL_height_167 : decode cL_height 167 = .ok (.istore 6, 2) := by decide +kernel
theorem dL_height_169 : decode cL_height 169 = .ok (.iinc 7 1, 3) := by decide +kernel
theorem dL_height_172 : decode cL_height 172 = .ok (.goto (-47), 3) := by decide +kernel
theorem dL_height_175 : decode cL_height 175 = .ok (.iload 5, 2) := by decide +kernel
theorem dL_height_177 : decode cL_height 177 = .ok (.ifCond .le 9, 3) := by decide +kernel
theorem dL_height_180 : decode cL_height 180 = .ok (.iload 6, 2) := by decide +kernel
theorem dL_height_182 : decode cL_height 182 = .ok (.iload 5, 2) := by decide +kernel
theorem dL_height_184 : decode cL_height 184 = .ok (.idiv, 1) := by decide +kernel
theorem dL_height_185 : decode cL_height 185 = .ok (.ireturn, 1) := by decide +kernel
theorem dL_height_186 : decode cL_height 186 = .ok (.iload 4, 2) := by decide +kernel
theorem dL_height_188 : decode cL_height 188 = .ok (.istore_n 2, 1) := by decide +kernel
theorem dL_height_189 : decode cL_height 189 = .ok (.iinc 3 1, 3) := by decide +kernel
theorem dL_height_192 : decode cL_height 192 = .ok (.goto (-171), 3) := by decide +kernel
theorem dL_height_195 : decode cL_height 195 = .ok (.iconst (-1), 1) := by decide +kernel
theorem dL_height_196 : decode cL_height 196 = .ok (.ireturn, 1) := by decide +kernel
set_option maxRecDepth 20000 in
theorem ggL_into_L_height : GoodIn wsL_into wsL_height := goodIn_r _ [4, 5, 6, 3, 7] (by decide +kernel) (by decide +kernel)
set_option maxRecDepth 20000 in
theorem gL_into_L_height : GoodIn wsL_into (va_wsS RL 30 yL_height wsL_height) := goodIn_app (goodIn_of _ (by decide +kernel)) ggL_into_L_height
theorem dL_into_0 : decode cL_into 0 = .ok (.aload_n 0, 1) := by decide +kernel
theorem dL_into_1 : decode cL_into 1 = .ok (.bipush 41, 2) := by decide +kernel
theorem dL_into_3 : decode cL_into 3 = .ok (.iload_n 1, 1) := by decide +kernel
theorem dL_into_4 : decode cL_into 4 = .ok (.iadd, 1) := by decide +kernel
theorem dL_into_5 : decode cL_into 5 = .ok (.iaload, 1) := by decide +kernel
theorem dL_into_6 : decode cL_into 6 = .ok (.ifCond .ne 5, 3) := by decide +kernel
theorem dL_into_9 : decode cL_into 9 = .ok (.iconst (-1), 1) := by decide +kernel
theorem dL_into_10 : decode cL_into 10 = .ok (.ireturn, 1) := by decide +kernel
theorem dL_into_11 : decode cL_into 11 = .ok (.aload_n 0, 1) := by decide +kernel
theorem dL_into_12 : decode cL_into 12 = .ok (.aload_n 0, 1) := by decide +kernel
theorem dL_into_13 : decode cL_into 13 = .ok (.iconst 1, 1) := by decide +kernel
theorem dL_into_14 : decode cL_into 14 = .ok (.iload_n 1, 1) := by decide +kernel
theorem dL_into_15 : decode cL_into 15 = .ok (.iadd, 1) := by decide +kernel
theorem dL_into_16 : decode cL_into 16 = .ok (.iaload, 1) := by decide +kernel
theorem dL_into_17 : decode cL_into 17 = .ok (.invokestatic 30, 3) := by decide +kernel
theorem dL_into_20 : decode cL_into 20 = .ok (.istore_n 2, 1) := by decide +kernel
theorem dL_into_21 : decode cL_into 21 = .ok (.aload_n 0, 1) := by decide +kernel
theorem dL_into_22 : decode cL_into 22 = .ok (.aload_n 0, 1) := by decide +kernel
theorem dL_into_23 : decode cL_into 23 = .ok (.bipush 11, 2) := by decide +kernel
theorem dL_into_25 : decode cL_into 25 = .ok (.iload_n 1, 1) := by decide +kernel
theorem dL_into_26 : decode cL_into 26 = .ok (.iadd, 1) := by decide +kernel
theorem dL_into_27 : decode cL_into 27 = .ok (.iaload, 1) := by decide +kernel
theorem dL_into_28 : decode cL_into 28 = .ok (.invokestatic 30, 3) := by decide +kernel
theorem dL_into_31 : decode cL_into 31 = .ok (.istore_n 3, 1) := by decide +kernel
theorem dL_into_32 : decode cL_into 32 = .ok (.iload_n 2, 1) := by decide +kernel
theorem dL_into_33 : decode cL_into 33 = .ok (.ifCond .lt 12, 3) := by decide +kernel
theorem dL_into_36 : decode cL_into 36 = .ok (.iload_n 3, 1) := by decide +kernel
theorem dL_into_37 : decode cL_into 37 = .ok (.ifCond .lt 8, 3) := by decide +kernel
theorem dL_into_40 : decode cL_into 40 = .ok (.iload_n 2, 1) := by decide +kernel
theorem dL_into_41 : decode cL_into 41 = .ok (.iload_n 3, 1) := by decide +kernel
theorem dL_into_42 : decode cL_into 42 = .ok (.if_icmp .ne 7, 3) := by decide +kernel
theorem dL_into_45 : decode cL_into 45 = .ok (.iconst (-1), 1) := by decide +kernel
theorem dL_into_46 : decode cL_into 46 = .ok (.goto 22, 3) := by decide +kernel
theorem dL_into_49 : decode cL_into 49 = .ok (.iload_n 2, 1) := by decide +kernel
theorem dL_into_50 : decode cL_into 50 = .ok (.iload_n 3, 1) := by decide +kernel
theorem dL_into_51 : decode cL_into 51 = .ok (.if_icmp .ge 11, 3) := by decide +kernel
theorem dL_into_54 : decode cL_into 54 = .ok (.aload_n 0, 1) := by decide +kernel
theorem dL_into_55 : decode cL_into 55 = .ok (.iconst 1, 1) := by decide +kernel
theorem dL_into_56 : decode cL_into 56 = .ok (.iload_n 1, 1) := by decide +kernel
theorem dL_into_57 : decode cL_into 57 = .ok (.iadd, 1) := by decide +kernel
theorem dL_into_58 : decode cL_into 58 = .ok (.iaload, 1) := by decide +kernel
theorem dL_into_59 : decode cL_into 59 = .ok (.goto 9, 3) := by decide +kernel
theorem dL_into_62 : decode cL_into 62 = .ok (.aload_n 0, 1) := by decide +kernel
theorem dL_into_63 : decode cL_into 63 = .ok (.bipush 11, 2) := by decide +kernel
theorem dL_into_65 : decode cL_into 65 = .ok (.iload_n 1, 1) := by decide +kernel
theorem dL_into_66 : decode cL_into 66 = .ok (.iadd, 1) := by decide +kernel
theorem dL_into_67 : decode cL_into 67 = .ok (.iaload, 1) := by decide +kernel
theorem dL_into_68 : decode cL_into 68 = .ok (.ireturn, 1) := by decide +kernel
theorem dL_other_0 : decode cL_other 0 = .ok (.aload_n 0, 1) := by decide +kernel
theorem dL_other_1 : decode cL_other 1 = .ok (.iconst 1, 1) := by decide +kernel
theorem dL_other_2 : decode cL_other 2 = .ok (.iload_n 1, 1) := by decide +kernel
theorem dL_other_3 : decode cL_other 3 = .ok (.iadd, 1) := by decide +kernel
theorem dL_other_4 : decode cL_other 4 = .ok (.iaload, 1) := by decide +kernel
theorem dL_other_5 : decode cL_other 5 = .ok (.iload_n 2, 1) := by decide +kernel
theorem dL_other_6 : decode cL_other 6 = .ok (.if_icmp .ne 12, 3) := by decide +kernel
theorem dL_other_9 : decode cL_other 9 = .ok (.aload_n 0, 1) := by decide +kernel
theorem dL_other_10 : decode cL_other 10 = .ok (.bipush 11, 2) := by decide +kernel
theorem dL_other_12 : decode cL_other 12 = .ok (.iload_n 1, 1) := by decide +kernel
theorem dL_other_13 : decode cL_other 13 = .ok (.iadd, 1) := by decide +kernel
theorem dL_other_14 : decode cL_other 14 = .ok (.iaload, 1) := by decide +kernel
theorem dL_other_15 : decode cL_other 15 = .ok (.goto 8, 3) := by decide +kernel
theorem dL_other_18 : decode cL_other 18 = .ok (.aload_n 0, 1) := by decide +kernel
theorem dL_other_19 : decode cL_other 19 = .ok (.iconst 1, 1) := by decide +kernel
theorem dL_other_20 : decode cL_other 20 = .ok (.iload_n 1, 1) := by decide +kernel
theorem dL_other_21 : decode cL_other 21 = .ok (.iadd, 1) := by decide +kernel
theorem dL_other_22 : decode cL_other 22 = .ok (.iaload, 1) := by decide +kernel
theorem dL_other_23 : decode cL_other 23 = .ok (.ireturn, 1) := by decide +kernel
set_option maxRecDepth 20000 in
theorem ggL_air_L_into : GoodIn wsL_air wsL_into := goodIn_r _ [5, 6, 7, 4, 8, 9, 10, 11] (by decide +kernel) (by decide +kernel)
set_option maxRecDepth 20000 in
theorem gL_air_L_into : GoodIn wsL_air (va_wsS RL 33 yL_into wsL_into) := goodIn_app (goodIn_of _ (by decide +kernel)) ggL_air_L_into
theorem dL_air_0 : decode cL_air 0 = .ok (.bipush 10, 2) := by decide +kernel
theorem dL_air_2 : decode cL_air 2 = .ok (.newarray .int, 2) := by decide +kernel
theorem dL_air_4 : decode cL_air 4 = .ok (.astore_n 1, 1) := by decide +kernel
theorem dL_air_5 : decode cL_air 5 = .ok (.iconst 0, 1) := by decide +kernel
theorem dL_air_6 : decode cL_air 6 = .ok (.istore_n 2, 1) := by decide +kernel
theorem dL_air_7 : decode cL_air 7 = .ok (.iload_n 2, 1) := by decide +kernel
theorem dL_air_8 : decode cL_air 8 = .ok (.bipush 10, 2) := by decide +kernel
theorem dL_air_10 : decode cL_air 10 = .ok (.if_icmp .ge 28, 3) := by decide +kernel
theorem dL_air_13 : decode cL_air 13 = .ok (.aload_n 1, 1) := by decide +kernel
theorem dL_air_14 : decode cL_air 14 = .ok (.iload_n 2, 1) := by decide +kernel
theorem dL_air_15 : decode cL_air 15 = .ok (.iload_n 2, 1) := by decide +kernel
theorem dL_air_16 : decode cL_air 16 = .ok (.aload_n 0, 1) := by decide +kernel
theorem dL_air_17 : decode cL_air 17 = .ok (.iconst 0, 1) := by decide +kernel
theorem dL_air_18 : decode cL_air 18 = .ok (.iaload, 1) := by decide +kernel
theorem dL_air_19 : decode cL_air 19 = .ok (.if_icmp .ge 11, 3) := by decide +kernel
theorem dL_air_22 : decode cL_air 22 = .ok (.aload_n 0, 1) := by decide +kernel
theorem dL_air_23 : decode cL_air 23 = .ok (.iload_n 2, 1) := by decide +kernel
theorem dL_air_24 : decode cL_air 24 = .ok (.invokestatic 33, 3) := by decide +kernel
theorem dL_air_27 : decode cL_air 27 = .ok (.goto 4, 3) := by decide +kernel
theorem dL_air_30 : decode cL_air 30 = .ok (.iconst (-1), 1) := by decide +kernel
theorem dL_air_31 : decode cL_air 31 = .ok (.iastore, 1) := by decide +kernel
theorem dL_air_32 : decode cL_air 32 = .ok (.iinc 2 1, 3) := by decide +kernel
theorem dL_air_35 : decode cL_air 35 = .ok (.goto (-28), 3) := by decide +kernel
theorem dL_air_38 : decode cL_air 38 = .ok (.aload_n 1, 1) := by decide +kernel
theorem dL_air_39 : decode cL_air 39 = .ok (.areturn, 1) := by decide +kernel
theorem dL_breathes_0 : decode cL_breathes 0 = .ok (.iconst 0, 1) := by decide +kernel
theorem dL_breathes_1 : decode cL_breathes 1 = .ok (.istore_n 3, 1) := by decide +kernel
theorem dL_breathes_2 : decode cL_breathes 2 = .ok (.iload_n 3, 1) := by decide +kernel
theorem dL_breathes_3 : decode cL_breathes 3 = .ok (.aload_n 0, 1) := by decide +kernel
theorem dL_breathes_4 : decode cL_breathes 4 = .ok (.iconst 0, 1) := by decide +kernel
theorem dL_breathes_5 : decode cL_breathes 5 = .ok (.iaload, 1) := by decide +kernel
theorem dL_breathes_6 : decode cL_breathes 6 = .ok (.if_icmp .ge 36, 3) := by decide +kernel
theorem dL_breathes_9 : decode cL_breathes 9 = .ok (.aload_n 1, 1) := by decide +kernel
theorem dL_breathes_10 : decode cL_breathes 10 = .ok (.iload_n 3, 1) := by decide +kernel
theorem dL_breathes_11 : decode cL_breathes 11 = .ok (.iaload, 1) := by decide +kernel
theorem dL_breathes_12 : decode cL_breathes 12 = .ok (.ifCond .lt 24, 3) := by decide +kernel
theorem dL_breathes_15 : decode cL_breathes 15 = .ok (.aload_n 0, 1) := by decide +kernel
theorem dL_breathes_16 : decode cL_breathes 16 = .ok (.iconst 1, 1) := by decide +kernel
theorem dL_breathes_17 : decode cL_breathes 17 = .ok (.iload_n 3, 1) := by decide +kernel
theorem dL_breathes_18 : decode cL_breathes 18 = .ok (.iadd, 1) := by decide +kernel
theorem dL_breathes_19 : decode cL_breathes 19 = .ok (.iaload, 1) := by decide +kernel
theorem dL_breathes_20 : decode cL_breathes 20 = .ok (.iload_n 2, 1) := by decide +kernel
theorem dL_breathes_21 : decode cL_breathes 21 = .ok (.if_icmp .eq 13, 3) := by decide +kernel
theorem dL_breathes_24 : decode cL_breathes 24 = .ok (.aload_n 0, 1) := by decide +kernel
theorem dL_breathes_25 : decode cL_breathes 25 = .ok (.bipush 11, 2) := by decide +kernel
theorem dL_breathes_27 : decode cL_breathes 27 = .ok (.iload_n 3, 1) := by decide +kernel
theorem dL_breathes_28 : decode cL_breathes 28 = .ok (.iadd, 1) := by decide +kernel
theorem dL_breathes_29 : decode cL_breathes 29 = .ok (.iaload, 1) := by decide +kernel
theorem dL_breathes_30 : decode cL_breathes 30 = .ok (.iload_n 2, 1) := by decide +kernel
theorem dL_breathes_31 : decode cL_breathes 31 = .ok (.if_icmp .ne 5, 3) := by decide +kernel
theorem dL_breathes_34 : decode cL_breathes 34 = .ok (.iconst 1, 1) := by decide +kernel
theorem dL_breathes_35 : decode cL_breathes 35 = .ok (.ireturn, 1) := by decide +kernel
theorem dL_breathes_36 : decode cL_breathes 36 = .ok (.iinc 3 1, 3) := by decide +kernel
theorem dL_breathes_39 : decode cL_breathes 39 = .ok (.goto (-37), 3) := by decide +kernel
theorem dL_breathes_42 : decode cL_breathes 42 = .ok (.iconst 0, 1) := by decide +kernel
theorem dL_breathes_43 : decode cL_breathes 43 = .ok (.ireturn, 1) := by decide +kernel
theorem dL_bears_0 : decode cL_bears 0 = .ok (.iload_n 0, 1) := by decide +kernel
theorem dL_bears_1 : decode cL_bears 1 = .ok (.iconst 2, 1) := by decide +kernel
theorem dL_bears_2 : decode cL_bears 2 = .ok (.if_icmp .ne 7, 3) := by decide +kernel
theorem dL_bears_5 : decode cL_bears 5 = .ok (.iconst 1, 1) := by decide +kernel
theorem dL_bears_6 : decode cL_bears 6 = .ok (.goto 23, 3) := by decide +kernel
theorem dL_bears_9 : decode cL_bears 9 = .ok (.iload_n 0, 1) := by decide +kernel
theorem dL_bears_10 : decode cL_bears 10 = .ok (.iconst 3, 1) := by decide +kernel
theorem dL_bears_11 : decode cL_bears 11 = .ok (.if_icmp .ne 7, 3) := by decide +kernel
theorem dL_bears_14 : decode cL_bears 14 = .ok (.iconst 2, 1) := by decide +kernel
theorem dL_bears_15 : decode cL_bears 15 = .ok (.goto 14, 3) := by decide +kernel
theorem dL_bears_18 : decode cL_bears 18 = .ok (.iload_n 0, 1) := by decide +kernel
theorem dL_bears_19 : decode cL_bears 19 = .ok (.iconst 4, 1) := by decide +kernel
theorem dL_bears_20 : decode cL_bears 20 = .ok (.if_icmp .ne 8, 3) := by decide +kernel
theorem dL_bears_23 : decode cL_bears 23 = .ok (.bipush 6, 2) := by decide +kernel
theorem dL_bears_25 : decode cL_bears 25 = .ok (.goto 4, 3) := by decide +kernel
theorem dL_bears_28 : decode cL_bears 28 = .ok (.iconst 4, 1) := by decide +kernel
theorem dL_bears_29 : decode cL_bears 29 = .ok (.ireturn, 1) := by decide +kernel
set_option maxRecDepth 20000 in
theorem ggL_minute_L_breathes : GoodIn wsL_minute wsL_breathes := goodIn_r _ [4] (by decide +kernel) (by decide +kernel)
set_option maxRecDepth 20000 in
theorem gL_minute_L_breathes : GoodIn wsL_minute (va_wsS RL 36 yL_breathes wsL_breathes) := goodIn_app (goodIn_of _ (by decide +kernel)) ggL_minute_L_breathes
set_option maxRecDepth 20000 in
theorem ggL_minute_L_bears : GoodIn wsL_minute wsL_bears := goodIn_r _ [7] (by decide +kernel) (by decide +kernel)
set_option maxRecDepth 20000 in
theorem gL_minute_L_bears : GoodIn wsL_minute (va_wsS RL 40 yL_bears wsL_bears) := goodIn_app (goodIn_of _ (by decide +kernel)) ggL_minute_L_bears
theorem dL_minute_0 : decode cL_minute 0 = .ok (.iconst 0, 1) := by decide +kernel
theorem dL_minute_1 : decode cL_minute 1 = .ok (.istore_n 3, 1) := by decide +kernel
theorem dL_minute_2 : decode cL_minute 2 = .ok (.iload_n 3, 1) := by decide +kernel
theorem dL_minute_3 : decode cL_minute 3 = .ok (.bipush 7, 2) := by decide +kernel
theorem dL_minute_5 : decode cL_minute 5 = .ok (.if_icmp .ge 43, 3) := by decide +kernel
theorem dL_minute_8 : decode cL_minute 8 = .ok (.aload_n 2, 1) := by decide +kernel
theorem dL_minute_9 : decode cL_minute 9 = .ok (.iload_n 3, 1) := by decide +kernel
theorem dL_minute_10 : decode cL_minute 10 = .ok (.aload_n 0, 1) := by decide +kernel
theorem dL_minute_11 : decode cL_minute 11 = .ok (.aload_n 1, 1) := by decide +kernel
theorem dL_minute_12 : decode cL_minute 12 = .ok (.iload_n 3, 1) := by decide +kernel
theorem dL_minute_13 : decode cL_minute 13 = .ok (.invokestatic 36, 3) := by decide +kernel
theorem dL_minute_16 : decode cL_minute 16 = .ok (.ifCond .eq 7, 3) := by decide +kernel
theorem dL_minute_19 : decode cL_minute 19 = .ok (.iconst 0, 1) := by decide +kernel
theorem dL_minute_20 : decode cL_minute 20 = .ok (.goto 21, 3) := by decide +kernel
theorem dL_minute_23 : decode cL_minute 23 = .ok (.aload_n 2, 1) := by decide +kernel
theorem dL_minute_24 : decode cL_minute 24 = .ok (.iload_n 3, 1) := by decide +kernel
theorem dL_minute_25 : decode cL_minute 25 = .ok (.iaload, 1) := by decide +kernel
theorem dL_minute_26 : decode cL_minute 26 = .ok (.bipush 9, 2) := by decide +kernel
theorem dL_minute_28 : decode cL_minute 28 = .ok (.if_icmp .ge 11, 3) := by decide +kernel
theorem dL_minute_31 : decode cL_minute 31 = .ok (.aload_n 2, 1) := by decide +kernel
theorem dL_minute_32 : decode cL_minute 32 = .ok (.iload_n 3, 1) := by decide +kernel
theorem dL_minute_33 : decode cL_minute 33 = .ok (.iaload, 1) := by decide +kernel
theorem dL_minute_34 : decode cL_minute 34 = .ok (.iconst 1, 1) := by decide +kernel
theorem dL_minute_35 : decode cL_minute 35 = .ok (.iadd, 1) := by decide +kernel
theorem dL_minute_36 : decode cL_minute 36 = .ok (.goto 5, 3) := by decide +kernel
theorem dL_minute_39 : decode cL_minute 39 = .ok (.bipush 9, 2) := by decide +kernel
theorem dL_minute_41 : decode cL_minute 41 = .ok (.iastore, 1) := by decide +kernel
theorem dL_minute_42 : decode cL_minute 42 = .ok (.iinc 3 1, 3) := by decide +kernel
theorem dL_minute_45 : decode cL_minute 45 = .ok (.goto (-43), 3) := by decide +kernel
theorem dL_minute_48 : decode cL_minute 48 = .ok (.iconst 0, 1) := by decide +kernel
theorem dL_minute_49 : decode cL_minute 49 = .ok (.istore_n 3, 1) := by decide +kernel
theorem dL_minute_50 : decode cL_minute 50 = .ok (.iconst 0, 1) := by decide +kernel
theorem dL_minute_51 : decode cL_minute 51 = .ok (.istore 4, 2) := by decide +kernel
theorem dL_minute_53 : decode cL_minute 53 = .ok (.iload 4, 2) := by decide +kernel
theorem dL_minute_55 : decode cL_minute 55 = .ok (.aload_n 2, 1) := by decide +kernel
theorem dL_minute_56 : decode cL_minute 56 = .ok (.bipush 20, 2) := by decide +kernel
theorem dL_minute_58 : decode cL_minute 58 = .ok (.iaload, 1) := by decide +kernel
theorem dL_minute_59 : decode cL_minute 59 = .ok (.if_icmp .ge 61, 3) := by decide +kernel
theorem dL_minute_62 : decode cL_minute 62 = .ok (.aload_n 2, 1) := by decide +kernel
theorem dL_minute_63 : decode cL_minute 63 = .ok (.bipush 19, 2) := by decide +kernel
theorem dL_minute_65 : decode cL_minute 65 = .ok (.iaload, 1) := by decide +kernel
theorem dL_minute_66 : decode cL_minute 66 = .ok (.iload 4, 2) := by decide +kernel
theorem dL_minute_68 : decode cL_minute 68 = .ok (.ishr, 1) := by decide +kernel
theorem dL_minute_69 : decode cL_minute 69 = .ok (.iconst 1, 1) := by decide +kernel
theorem dL_minute_70 : decode cL_minute 70 = .ok (.iand, 1) := by decide +kernel
theorem dL_minute_71 : decode cL_minute 71 = .ok (.iconst 1, 1) := by decide +kernel
theorem dL_minute_72 : decode cL_minute 72 = .ok (.if_icmp .eq 42, 3) := by decide +kernel
theorem dL_minute_75 : decode cL_minute 75 = .ok (.aload_n 2, 1) := by decide +kernel
theorem dL_minute_76 : decode cL_minute 76 = .ok (.aload_n 2, 1) := by decide +kernel
theorem dL_minute_77 : decode cL_minute 77 = .ok (.bipush 13, 2) := by decide +kernel
theorem dL_minute_79 : decode cL_minute 79 = .ok (.iload 4, 2) := by decide +kernel
theorem dL_minute_81 : decode cL_minute 81 = .ok (.iadd, 1) := by decide +kernel
theorem dL_minute_82 : decode cL_minute 82 = .ok (.iaload, 1) := by decide +kernel
theorem dL_minute_83 : decode cL_minute 83 = .ok (.iaload, 1) := by decide +kernel
theorem dL_minute_84 : decode cL_minute 84 = .ok (.aload_n 2, 1) := by decide +kernel
theorem dL_minute_85 : decode cL_minute 85 = .ok (.bipush 7, 2) := by decide +kernel
theorem dL_minute_87 : decode cL_minute 87 = .ok (.iload 4, 2) := by decide +kernel
theorem dL_minute_89 : decode cL_minute 89 = .ok (.iadd, 1) := by decide +kernel
theorem dL_minute_90 : decode cL_minute 90 = .ok (.iaload, 1) := by decide +kernel
theorem dL_minute_91 : decode cL_minute 91 = .ok (.invokestatic 40, 3) := by decide +kernel
theorem dL_minute_94 : decode cL_minute 94 = .ok (.if_icmp .gt 6, 3) := by decide +kernel
theorem dL_minute_97 : decode cL_minute 97 = .ok (.goto 17, 3) := by decide +kernel
theorem dL_minute_100 : decode cL_minute 100 = .ok (.aload_n 2, 1) := by decide +kernel
theorem dL_minute_101 : decode cL_minute 101 = .ok (.bipush 19, 2) := by decide +kernel
theorem dL_minute_103 : decode cL_minute 103 = .ok (.dup2, 1) := by decide +kernel
theorem dL_minute_104 : decode cL_minute 104 = .ok (.iaload, 1) := by decide +kernel
theorem dL_minute_105 : decode cL_minute 105 = .ok (.iconst 1, 1) := by decide +kernel
theorem dL_minute_106 : decode cL_minute 106 = .ok (.iload 4, 2) := by decide +kernel
theorem dL_minute_108 : decode cL_minute 108 = .ok (.ishl, 1) := by decide +kernel
theorem dL_minute_109 : decode cL_minute 109 = .ok (.ior, 1) := by decide +kernel
theorem dL_minute_110 : decode cL_minute 110 = .ok (.iastore, 1) := by decide +kernel
theorem dL_minute_111 : decode cL_minute 111 = .ok (.iinc 3 1, 3) := by decide +kernel
theorem dL_minute_114 : decode cL_minute 114 = .ok (.iinc 4 1, 3) := by decide +kernel
theorem dL_minute_117 : decode cL_minute 117 = .ok (.goto (-64), 3) := by decide +kernel
theorem dL_minute_120 : decode cL_minute 120 = .ok (.iload_n 3, 1) := by decide +kernel
theorem dL_minute_121 : decode cL_minute 121 = .ok (.ireturn, 1) := by decide +kernel
set_option maxRecDepth 20000 in
theorem ggL_stands_L_air : GoodIn wsL_stands wsL_air := goodIn_r _ [4, 5, 6, 7, 3, 8, 9, 10, 11, 12, 13, 14] (by decide +kernel) (by decide +kernel)
set_option maxRecDepth 20000 in
theorem gL_stands_L_air : GoodIn wsL_stands (va_wsS RL 44 yL_air wsL_air) := goodIn_app (goodIn_of _ (by decide +kernel)) ggL_stands_L_air
set_option maxRecDepth 20000 in
theorem ggL_stands_X10_gallery : GoodIn wsL_stands wsX10_gallery := goodIn_r _ [19, 20, 21, 22, 23, 24, 25, 26, 27, 28, 29, 30, 31, 32, 33, 34, 35, 36, 37, 38, 39, 40, 41, 42, 18, 43, 105, 106, 107, 108, 109, 110, 111, 112, 113, 114, 115, 116, 117, 118, 119, 120, 121, 122, 123, 124, 125, 126, 127, 128, 129, 130, 131, 132, 133, 134, 135, 136, 137] (by decide +kernel) (by decide +kernel)
set_option maxRecDepth 20000 in
theorem gL_stands_X10_gallery : GoodIn wsL_stands (wsV RL 48 RX10 yX10_gallery wsX10_gallery) := goodIn_app (goodIn_of _ (by decide +kernel)) ggL_stands_X10_gallery
set_option maxRecDepth 20000 in
theorem ggL_stands_X10_knot : GoodIn wsL_stands wsX10_knot := goodIn_r _ [47, 20, 48, 27, 49, 50, 25, 51, 52, 53, 54, 32, 55, 34, 56, 57, 18, 58, 35, 36, 37, 38, 39, 40, 41, 42, 43, 105, 106, 107, 108, 109, 110, 111, 112, 113, 114, 115, 116, 117, 118, 119, 120, 121, 122, 123, 124, 125, 126, 133, 134, 135, 136, 127, 128, 129, 130, 131, 132, 137] (by decide +kernel) (by decide +kernel)
set_option maxRecDepth 20000 in
theorem gL_stands_X10_knot : GoodIn wsL_stands (wsV RL 51 RX10 yX10_knot wsX10_knot) := goodIn_app (goodIn_of _ (by decide +kernel)) ggL_stands_X10_knot
set_option maxRecDepth 20000 in
theorem ggL_stands_L_height : GoodIn wsL_stands wsL_height := goodIn_r _ [11, 12, 13, 3, 14] (by decide +kernel) (by decide +kernel)
set_option maxRecDepth 20000 in
theorem gL_stands_L_height : GoodIn wsL_stands (va_wsS RL 30 yL_height wsL_height) := goodIn_app (goodIn_of _ (by decide +kernel)) ggL_stands_L_height
set_option maxRecDepth 20000 in
theorem ggL_stands_L_breathes : GoodIn wsL_stands wsL_breathes := goodIn_r _ [61] (by decide +kernel) (by decide +kernel)
set_option maxRecDepth 20000 in
theorem gL_stands_L_breathes : GoodIn wsL_stands (va_wsS RL 36 yL_breathes wsL_breathes) := goodIn_app (goodIn_of _ (by decide +kernel)) ggL_stands_L_breathes
set_option maxRecDepth 20000 in
theorem ggL_stands_X10_about : GoodIn wsL_stands wsX10_about := goodIn_r _ [65, 66, 67, 25, 68, 69, 70, 71, 72, 73, 74, 75, 35, 36, 37, 38, 39, 40, 41, 42, 18, 43, 76, 77, 78, 79, 80, 81, 105, 106, 107, 108, 109, 110, 111, 112, 113, 114, 115, 116, 117, 118, 119, 138, 139, 127, 128, 129, 130, 131, 132, 137] (by decide +kernel) (by decide +kernel)
set_option maxRecDepth 20000 in
theorem gL_stands_X10_about : GoodIn wsL_stands (wsV RL 54 RX10 yX10_about wsX10_about) := goodIn_app (goodIn_of _ (by decide +kernel)) ggL_stands_X10_about
set_option maxRecDepth 20000 in
theorem ggL_stands_L_bears : GoodIn wsL_stands wsL_bears := goodIn_r _ [84] (by decide +kernel) (by decide +kernel)
set_option maxRecDepth 20000 in
theorem gL_stands_L_bears : GoodIn wsL_stands (va_wsS RL 40 yL_bears wsL_bears) := goodIn_app (goodIn_of _ (by decide +kernel)) ggL_stands_L_bears
set_option maxRecDepth 20000 in
theorem ggL_stands_X10_count : GoodIn wsL_stands wsX10_count := goodIn_r _ [88, 20, 89, 24, 90, 66, 91, 25, 92, 93, 94, 95, 96, 97, 98, 99, 100, 101, 102, 103, 104, 105, 106, 107, 108, 109, 110, 111, 112, 113, 114, 115, 116, 117, 118, 119, 120, 121, 122, 123, 124, 125, 126, 138, 139, 127, 128, 129, 130, 131, 132, 140, 141, 142] (by decide +kernel) (by decide +kernel)
set_option maxRecDepth 20000 in
theorem gL_stands_X10_count : GoodIn wsL_stands (wsV RL 57 RX10 yX10_count wsX10_count) := goodIn_app (goodIn_of _ (by decide +kernel)) ggL_stands_X10_count
theorem dL_stands_0 : decode cL_stands 0 = .ok (.aload_n 1, 1) := by decide +kernel
theorem dL_stands_1 : decode cL_stands 1 = .ok (.invokestatic 44, 3) := by decide +kernel
theorem dL_stands_4 : decode cL_stands 4 = .ok (.astore_n 3, 1) := by decide +kernel
theorem dL_stands_5 : decode cL_stands 5 = .ok (.iconst 0, 1) := by decide +kernel
theorem dL_stands_6 : decode cL_stands 6 = .ok (.istore 4, 2) := by decide +kernel
theorem dL_stands_8 : decode cL_stands 8 = .ok (.iload 4, 2) := by decide +kernel
theorem dL_stands_10 : decode cL_stands 10 = .ok (.aload_n 1, 1) := by decide +kernel
theorem dL_stands_11 : decode cL_stands 11 = .ok (.iconst 0, 1) := by decide +kernel
theorem dL_stands_12 : decode cL_stands 12 = .ok (.iaload, 1) := by decide +kernel
theorem dL_stands_13 : decode cL_stands 13 = .ok (.if_icmp .ge 109, 3) := by decide +kernel
theorem dL_stands_16 : decode cL_stands 16 = .ok (.aload_n 0, 1) := by decide +kernel
theorem dL_stands_17 : decode cL_stands 17 = .ok (.iload 4, 2) := by decide +kernel
theorem dL_stands_19 : decode cL_stands 19 = .ok (.iconst 0, 1) := by decide +kernel
theorem dL_stands_20 : decode cL_stands 20 = .ok (.invokevirtual 48, 3) := by decide +kernel
theorem dL_stands_23 : decode cL_stands 23 = .ok (.aload_n 1, 1) := by decide +kernel
theorem dL_stands_24 : decode cL_stands 24 = .ok (.iconst 1, 1) := by decide +kernel
theorem dL_stands_25 : decode cL_stands 25 = .ok (.iload 4, 2) := by decide +kernel
theorem dL_stands_27 : decode cL_stands 27 = .ok (.iadd, 1) := by decide +kernel
theorem dL_stands_28 : decode cL_stands 28 = .ok (.iaload, 1) := by decide +kernel
theorem dL_stands_29 : decode cL_stands 29 = .ok (.if_icmp .ne 85, 3) := by decide +kernel
theorem dL_stands_32 : decode cL_stands 32 = .ok (.aload_n 0, 1) := by decide +kernel
theorem dL_stands_33 : decode cL_stands 33 = .ok (.iload 4, 2) := by decide +kernel
theorem dL_stands_35 : decode cL_stands 35 = .ok (.iconst 1, 1) := by decide +kernel
theorem dL_stands_36 : decode cL_stands 36 = .ok (.invokevirtual 48, 3) := by decide +kernel
theorem dL_stands_39 : decode cL_stands 39 = .ok (.aload_n 1, 1) := by decide +kernel
theorem dL_stands_40 : decode cL_stands 40 = .ok (.bipush 11, 2) := by decide +kernel
theorem dL_stands_42 : decode cL_stands 42 = .ok (.iload 4, 2) := by decide +kernel
theorem dL_stands_44 : decode cL_stands 44 = .ok (.iadd, 1) := by decide +kernel
theorem dL_stands_45 : decode cL_stands 45 = .ok (.iaload, 1) := by decide +kernel
theorem dL_stands_46 : decode cL_stands 46 = .ok (.if_icmp .ne 68, 3) := by decide +kernel
theorem dL_stands_49 : decode cL_stands 49 = .ok (.aload_n 0, 1) := by decide +kernel
theorem dL_stands_50 : decode cL_stands 50 = .ok (.iload 4, 2) := by decide +kernel
theorem dL_stands_52 : decode cL_stands 52 = .ok (.iconst 2, 1) := by decide +kernel
theorem dL_stands_53 : decode cL_stands 53 = .ok (.invokevirtual 48, 3) := by decide +kernel
theorem dL_stands_56 : decode cL_stands 56 = .ok (.aload_n 1, 1) := by decide +kernel
theorem dL_stands_57 : decode cL_stands 57 = .ok (.bipush 21, 2) := by decide +kernel
theorem dL_stands_59 : decode cL_stands 59 = .ok (.iload 4, 2) := by decide +kernel
theorem dL_stands_61 : decode cL_stands 61 = .ok (.iadd, 1) := by decide +kernel
theorem dL_stands_62 : decode cL_stands 62 = .ok (.iaload, 1) := by decide +kernel
theorem dL_stands_63 : decode cL_stands 63 = .ok (.if_icmp .ne 51, 3) := by decide +kernel
theorem dL_stands_66 : decode cL_stands 66 = .ok (.aload_n 0, 1) := by decide +kernel
theorem dL_stands_67 : decode cL_stands 67 = .ok (.iload 4, 2) := by decide +kernel
theorem dL_stands_69 : decode cL_stands 69 = .ok (.iconst 3, 1) := by decide +kernel
theorem dL_stands_70 : decode cL_stands 70 = .ok (.invokevirtual 48, 3) := by decide +kernel
theorem dL_stands_73 : decode cL_stands 73 = .ok (.aload_n 1, 1) := by decide +kernel
theorem dL_stands_74 : decode cL_stands 74 = .ok (.bipush 31, 2) := by decide +kernel
theorem dL_stands_76 : decode cL_stands 76 = .ok (.iload 4, 2) := by decide +kernel
theorem dL_stands_78 : decode cL_stands 78 = .ok (.iadd, 1) := by decide +kernel
theorem dL_stands_79 : decode cL_stands 79 = .ok (.iaload, 1) := by decide +kernel
theorem dL_stands_80 : decode cL_stands 80 = .ok (.if_icmp .ne 34, 3) := by decide +kernel
theorem dL_stands_83 : decode cL_stands 83 = .ok (.aload_n 0, 1) := by decide +kernel
theorem dL_stands_84 : decode cL_stands 84 = .ok (.iload 4, 2) := by decide +kernel
theorem dL_stands_86 : decode cL_stands 86 = .ok (.iconst 4, 1) := by decide +kernel
theorem dL_stands_87 : decode cL_stands 87 = .ok (.invokevirtual 48, 3) := by decide +kernel
theorem dL_stands_90 : decode cL_stands 90 = .ok (.aload_n 1, 1) := by decide +kernel
theorem dL_stands_91 : decode cL_stands 91 = .ok (.bipush 41, 2) := by decide +kernel
theorem dL_stands_93 : decode cL_stands 93 = .ok (.iload 4, 2) := by decide +kernel
theorem dL_stands_95 : decode cL_stands 95 = .ok (.iadd, 1) := by decide +kernel
theorem dL_stands_96 : decode cL_stands 96 = .ok (.iaload, 1) := by decide +kernel
theorem dL_stands_97 : decode cL_stands 97 = .ok (.if_icmp .ne 17, 3) := by decide +kernel
theorem dL_stands_100 : decode cL_stands 100 = .ok (.aload_n 0, 1) := by decide +kernel
theorem dL_stands_101 : decode cL_stands 101 = .ok (.iload 4, 2) := by decide +kernel
theorem dL_stands_103 : decode cL_stands 103 = .ok (.iconst 5, 1) := by decide +kernel
theorem dL_stands_104 : decode cL_stands 104 = .ok (.invokevirtual 48, 3) := by decide +kernel
theorem dL_stands_107 : decode cL_stands 107 = .ok (.aload_n 3, 1) := by decide +kernel
theorem dL_stands_108 : decode cL_stands 108 = .ok (.iload 4, 2) := by decide +kernel
theorem dL_stands_110 : decode cL_stands 110 = .ok (.iaload, 1) := by decide +kernel
theorem dL_stands_111 : decode cL_stands 111 = .ok (.if_icmp .eq 5, 3) := by decide +kernel
theorem dL_stands_114 : decode cL_stands 114 = .ok (.iconst 0, 1) := by decide +kernel
theorem dL_stands_115 : decode cL_stands 115 = .ok (.ireturn, 1) := by decide +kernel
theorem dL_stands_116 : decode cL_stands 116 = .ok (.iinc 4 1, 3) := by decide +kernel
theorem dL_stands_119 : decode cL_stands 119 = .ok (.goto (-111), 3) := by decide +kernel
theorem dL_stands_122 : decode cL_stands 122 = .ok (.iconst 0, 1) := by decide +kernel
theorem dL_stands_123 : decode cL_stands 123 = .ok (.istore 4, 2) := by decide +kernel
theorem dL_stands_125 : decode cL_stands 125 = .ok (.iload 4, 2) := by decide +kernel
theorem dL_stands_127 : decode cL_stands 127 = .ok (.bipush 7, 2) := by decide +kernel
theorem dL_stands_129 : decode cL_stands 129 = .ok (.if_icmp .ge 85, 3) := by decide +kernel
theorem dL_stands_132 : decode cL_stands 132 = .ok (.aload_n 0, 1) := by decide +kernel
theorem dL_stands_133 : decode cL_stands 133 = .ok (.iload 4, 2) := by decide +kernel
theorem dL_stands_135 : decode cL_stands 135 = .ok (.iconst 0, 1) := by decide +kernel
theorem dL_stands_136 : decode cL_stands 136 = .ok (.invokevirtual 51, 3) := by decide +kernel
theorem dL_stands_139 : decode cL_stands 139 = .ok (.aload_n 1, 1) := by decide +kernel
theorem dL_stands_140 : decode cL_stands 140 = .ok (.bipush 52, 2) := by decide +kernel
theorem dL_stands_142 : decode cL_stands 142 = .ok (.iload 4, 2) := by decide +kernel
theorem dL_stands_144 : decode cL_stands 144 = .ok (.iadd, 1) := by decide +kernel
theorem dL_stands_145 : decode cL_stands 145 = .ok (.iaload, 1) := by decide +kernel
theorem dL_stands_146 : decode cL_stands 146 = .ok (.iconst 1, 1) := by decide +kernel
theorem dL_stands_147 : decode cL_stands 147 = .ok (.isub, 1) := by decide +kernel
theorem dL_stands_148 : decode cL_stands 148 = .ok (.if_icmp .ne 58, 3) := by decide +kernel
theorem dL_stands_151 : decode cL_stands 151 = .ok (.aload_n 0, 1) := by decide +kernel
theorem dL_stands_152 : decode cL_stands 152 = .ok (.iload 4, 2) := by decide +kernel
theorem dL_stands_154 : decode cL_stands 154 = .ok (.iconst 1, 1) := by decide +kernel
theorem dL_stands_155 : decode cL_stands 155 = .ok (.invokevirtual 51, 3) := by decide +kernel
theorem dL_stands_158 : decode cL_stands 158 = .ok (.aload_n 1, 1) := by decide +kernel
theorem dL_stands_159 : decode cL_stands 159 = .ok (.iload 4, 2) := by decide +kernel
theorem dL_stands_161 : decode cL_stands 161 = .ok (.invokestatic 30, 3) := by decide +kernel
theorem dL_stands_164 : decode cL_stands 164 = .ok (.if_icmp .ne 42, 3) := by decide +kernel
theorem dL_stands_167 : decode cL_stands 167 = .ok (.aload_n 0, 1) := by decide +kernel
theorem dL_stands_168 : decode cL_stands 168 = .ok (.iload 4, 2) := by decide +kernel
theorem dL_stands_170 : decode cL_stands 170 = .ok (.iconst 2, 1) := by decide +kernel
theorem dL_stands_171 : decode cL_stands 171 = .ok (.invokevirtual 51, 3) := by decide +kernel
theorem dL_stands_174 : decode cL_stands 174 = .ok (.aload_n 1, 1) := by decide +kernel
theorem dL_stands_175 : decode cL_stands 175 = .ok (.aload_n 3, 1) := by decide +kernel
end
section
theorem dL_stands_176 : decode cL_stands 176 = .ok (.iload 4, 2) := by decide +kernel
theorem dL_stands_178 : decode cL_stands 178 = .ok (.invokestatic 36, 3) := by decide +kernel
theorem dL_stands_181 : decode cL_stands 181 = .ok (.ifCond .eq 7, 3) := by decide +kernel
theorem dL_stands_184 : decode cL_stands 184 = .ok (.iconst 1, 1) := by decide +kernel
theorem dL_stands_185 : decode cL_stands 185 = .ok (.goto 4, 3) := by decide +kernel
theorem dL_stands_188 : decode cL_stands 188 = .ok (.iconst 0, 1) := by decide +kernel
theorem dL_stands_189 : decode cL_stands 189 = .ok (.if_icmp .ne 17, 3) := by decide +kernel
theorem dL_stands_192 : decode cL_stands 192 = .ok (.aload_n 0, 1) := by decide +kernel
theorem dL_stands_193 : decode cL_stands 193 = .ok (.iload 4, 2) := by decide +kernel
theorem dL_stands_195 : decode cL_stands 195 = .ok (.iconst 3, 1) := by decide +kernel
theorem dL_stands_196 : decode cL_stands 196 = .ok (.invokevirtual 51, 3) := by decide +kernel
theorem dL_stands_199 : decode cL_stands 199 = .ok (.aload_n 2, 1) := by decide +kernel
theorem dL_stands_200 : decode cL_stands 200 = .ok (.iload 4, 2) := by decide +kernel
theorem dL_stands_202 : decode cL_stands 202 = .ok (.iaload, 1) := by decide +kernel
theorem dL_stands_203 : decode cL_stands 203 = .ok (.if_icmp .eq 5, 3) := by decide +kernel
theorem dL_stands_206 : decode cL_stands 206 = .ok (.iconst 0, 1) := by decide +kernel
theorem dL_stands_207 : decode cL_stands 207 = .ok (.ireturn, 1) := by decide +kernel
theorem dL_stands_208 : decode cL_stands 208 = .ok (.iinc 4 1, 3) := by decide +kernel
theorem dL_stands_211 : decode cL_stands 211 = .ok (.goto (-86), 3) := by decide +kernel
theorem dL_stands_214 : decode cL_stands 214 = .ok (.iconst 0, 1) := by decide +kernel
theorem dL_stands_215 : decode cL_stands 215 = .ok (.istore 4, 2) := by decide +kernel
theorem dL_stands_217 : decode cL_stands 217 = .ok (.iload 4, 2) := by decide +kernel
theorem dL_stands_219 : decode cL_stands 219 = .ok (.aload_n 2, 1) := by decide +kernel
theorem dL_stands_220 : decode cL_stands 220 = .ok (.bipush 20, 2) := by decide +kernel
theorem dL_stands_222 : decode cL_stands 222 = .ok (.iaload, 1) := by decide +kernel
theorem dL_stands_223 : decode cL_stands 223 = .ok (.if_icmp .ge 84, 3) := by decide +kernel
theorem dL_stands_226 : decode cL_stands 226 = .ok (.aload_n 0, 1) := by decide +kernel
theorem dL_stands_227 : decode cL_stands 227 = .ok (.iload 4, 2) := by decide +kernel
theorem dL_stands_229 : decode cL_stands 229 = .ok (.iconst 0, 1) := by decide +kernel
theorem dL_stands_230 : decode cL_stands 230 = .ok (.invokevirtual 54, 3) := by decide +kernel
theorem dL_stands_233 : decode cL_stands 233 = .ok (.aload_n 2, 1) := by decide +kernel
theorem dL_stands_234 : decode cL_stands 234 = .ok (.bipush 7, 2) := by decide +kernel
theorem dL_stands_236 : decode cL_stands 236 = .ok (.iload 4, 2) := by decide +kernel
theorem dL_stands_238 : decode cL_stands 238 = .ok (.iadd, 1) := by decide +kernel
theorem dL_stands_239 : decode cL_stands 239 = .ok (.iaload, 1) := by decide +kernel
theorem dL_stands_240 : decode cL_stands 240 = .ok (.if_icmp .ne 59, 3) := by decide +kernel
theorem dL_stands_243 : decode cL_stands 243 = .ok (.aload_n 0, 1) := by decide +kernel
theorem dL_stands_244 : decode cL_stands 244 = .ok (.iload 4, 2) := by decide +kernel
theorem dL_stands_246 : decode cL_stands 246 = .ok (.iconst 1, 1) := by decide +kernel
theorem dL_stands_247 : decode cL_stands 247 = .ok (.invokevirtual 54, 3) := by decide +kernel
theorem dL_stands_250 : decode cL_stands 250 = .ok (.aload_n 2, 1) := by decide +kernel
theorem dL_stands_251 : decode cL_stands 251 = .ok (.bipush 13, 2) := by decide +kernel
theorem dL_stands_253 : decode cL_stands 253 = .ok (.iload 4, 2) := by decide +kernel
theorem dL_stands_255 : decode cL_stands 255 = .ok (.iadd, 1) := by decide +kernel
theorem dL_stands_256 : decode cL_stands 256 = .ok (.iaload, 1) := by decide +kernel
theorem dL_stands_257 : decode cL_stands 257 = .ok (.if_icmp .ne 42, 3) := by decide +kernel
theorem dL_stands_260 : decode cL_stands 260 = .ok (.aload_n 0, 1) := by decide +kernel
theorem dL_stands_261 : decode cL_stands 261 = .ok (.iload 4, 2) := by decide +kernel
theorem dL_stands_263 : decode cL_stands 263 = .ok (.iconst 2, 1) := by decide +kernel
theorem dL_stands_264 : decode cL_stands 264 = .ok (.invokevirtual 54, 3) := by decide +kernel
theorem dL_stands_267 : decode cL_stands 267 = .ok (.aload_n 2, 1) := by decide +kernel
theorem dL_stands_268 : decode cL_stands 268 = .ok (.bipush 19, 2) := by decide +kernel
theorem dL_stands_270 : decode cL_stands 270 = .ok (.iaload, 1) := by decide +kernel
theorem dL_stands_271 : decode cL_stands 271 = .ok (.iload 4, 2) := by decide +kernel
theorem dL_stands_273 : decode cL_stands 273 = .ok (.ishr, 1) := by decide +kernel
theorem dL_stands_274 : decode cL_stands 274 = .ok (.iconst 1, 1) := by decide +kernel
theorem dL_stands_275 : decode cL_stands 275 = .ok (.iand, 1) := by decide +kernel
theorem dL_stands_276 : decode cL_stands 276 = .ok (.if_icmp .ne 23, 3) := by decide +kernel
theorem dL_stands_279 : decode cL_stands 279 = .ok (.aload_n 0, 1) := by decide +kernel
theorem dL_stands_280 : decode cL_stands 280 = .ok (.iload 4, 2) := by decide +kernel
theorem dL_stands_282 : decode cL_stands 282 = .ok (.iconst 3, 1) := by decide +kernel
theorem dL_stands_283 : decode cL_stands 283 = .ok (.invokevirtual 54, 3) := by decide +kernel
theorem dL_stands_286 : decode cL_stands 286 = .ok (.aload_n 2, 1) := by decide +kernel
theorem dL_stands_287 : decode cL_stands 287 = .ok (.bipush 7, 2) := by decide +kernel
theorem dL_stands_289 : decode cL_stands 289 = .ok (.iload 4, 2) := by decide +kernel
theorem dL_stands_291 : decode cL_stands 291 = .ok (.iadd, 1) := by decide +kernel
theorem dL_stands_292 : decode cL_stands 292 = .ok (.iaload, 1) := by decide +kernel
theorem dL_stands_293 : decode cL_stands 293 = .ok (.invokestatic 40, 3) := by decide +kernel
theorem dL_stands_296 : decode cL_stands 296 = .ok (.if_icmp .eq 5, 3) := by decide +kernel
theorem dL_stands_299 : decode cL_stands 299 = .ok (.iconst 0, 1) := by decide +kernel
theorem dL_stands_300 : decode cL_stands 300 = .ok (.ireturn, 1) := by decide +kernel
theorem dL_stands_301 : decode cL_stands 301 = .ok (.iinc 4 1, 3) := by decide +kernel
theorem dL_stands_304 : decode cL_stands 304 = .ok (.goto (-87), 3) := by decide +kernel
theorem dL_stands_307 : decode cL_stands 307 = .ok (.aload_n 0, 1) := by decide +kernel
theorem dL_stands_308 : decode cL_stands 308 = .ok (.iconst 3, 1) := by decide +kernel
theorem dL_stands_309 : decode cL_stands 309 = .ok (.invokevirtual 57, 3) := by decide +kernel
theorem dL_stands_312 : decode cL_stands 312 = .ok (.aload_n 2, 1) := by decide +kernel
theorem dL_stands_313 : decode cL_stands 313 = .ok (.bipush 20, 2) := by decide +kernel
theorem dL_stands_315 : decode cL_stands 315 = .ok (.iaload, 1) := by decide +kernel
theorem dL_stands_316 : decode cL_stands 316 = .ok (.if_icmp .ne 31, 3) := by decide +kernel
theorem dL_stands_319 : decode cL_stands 319 = .ok (.aload_n 0, 1) := by decide +kernel
theorem dL_stands_320 : decode cL_stands 320 = .ok (.iconst 4, 1) := by decide +kernel
theorem dL_stands_321 : decode cL_stands 321 = .ok (.invokevirtual 57, 3) := by decide +kernel
theorem dL_stands_324 : decode cL_stands 324 = .ok (.aload_n 1, 1) := by decide +kernel
theorem dL_stands_325 : decode cL_stands 325 = .ok (.bipush 51, 2) := by decide +kernel
theorem dL_stands_327 : decode cL_stands 327 = .ok (.iaload, 1) := by decide +kernel
theorem dL_stands_328 : decode cL_stands 328 = .ok (.if_icmp .ne 19, 3) := by decide +kernel
theorem dL_stands_331 : decode cL_stands 331 = .ok (.aload_n 0, 1) := by decide +kernel
theorem dL_stands_332 : decode cL_stands 332 = .ok (.iconst 5, 1) := by decide +kernel
theorem dL_stands_333 : decode cL_stands 333 = .ok (.invokevirtual 57, 3) := by decide +kernel
theorem dL_stands_336 : decode cL_stands 336 = .ok (.aload_n 2, 1) := by decide +kernel
theorem dL_stands_337 : decode cL_stands 337 = .ok (.bipush 21, 2) := by decide +kernel
theorem dL_stands_339 : decode cL_stands 339 = .ok (.iaload, 1) := by decide +kernel
theorem dL_stands_340 : decode cL_stands 340 = .ok (.if_icmp .ne 7, 3) := by decide +kernel
theorem dL_stands_343 : decode cL_stands 343 = .ok (.iconst 1, 1) := by decide +kernel
theorem dL_stands_344 : decode cL_stands 344 = .ok (.goto 4, 3) := by decide +kernel
theorem dL_stands_347 : decode cL_stands 347 = .ok (.iconst 0, 1) := by decide +kernel
theorem dL_stands_348 : decode cL_stands 348 = .ok (.ireturn, 1) := by decide +kernel
set_option maxRecDepth 20000 in
theorem ggL_law_X10_init : GoodIn wsL_law wsX10_init := goodIn_k _ [(0, 7), (0, 8), (0, 9), (0, 10), (0, 11), (0, 12), (0, 13), (0, 14), (0, 15), (0, 16), (0, 17), (0, 18), (0, 19), (0, 20), (0, 21), (0, 22), (0, 23), (1, 0), (1, 1), (1, 2), (1, 3), (1, 4), (1, 5), (1, 6), (1, 7), (1, 8), (1, 9), (1, 10), (1, 11), (1, 12), (1, 13), (1, 14), (1, 15), (1, 16), (1, 17), (1, 18), (1, 19), (1, 20), (1, 21), (1, 22), (1, 23), (2, 0), (2, 1), (2, 2), (2, 3), (2, 4), (2, 5), (2, 6), (2, 7), (2, 8), (2, 9), (2, 10), (2, 11), (2, 12), (2, 13), (0, 3), (2, 14), (2, 15), (2, 16), (2, 17), (2, 18), (2, 19), (2, 20), (2, 21), (2, 22), (2, 23), (3, 0), (3, 1), (3, 2), (3, 3), (3, 4), (3, 5), (3, 6), (3, 7), (3, 8), (3, 9), (3, 10), (3, 11), (3, 12), (3, 13), (3, 14), (3, 15), (3, 16), (3, 17), (3, 18), (3, 19), (3, 20), (3, 21), (3, 22), (3, 23), (4, 0), (4, 1), (4, 2), (4, 3), (4, 4), (4, 5), (4, 6), (4, 7), (4, 8), (4, 9), (4, 10), (4, 11), (4, 12), (4, 13), (4, 14), (4, 15), (4, 16), (4, 17), (23, 0), (23, 1), (23, 2), (22, 0), (22, 1), (22, 2), (22, 3), (22, 4), (22, 5), (22, 6), (22, 7), (22, 8), (22, 9), (22, 10), (22, 11), (22, 12), (22, 13), (22, 14), (24, 0), (24, 1), (24, 2), (24, 3), (24, 4), (24, 5), (24, 6), (25, 0), (25, 1), (25, 2), (25, 3), (26, 0), (27, 0), (27, 1), (28, 0), (28, 1), (28, 2), (28, 3), (28, 4), (28, 5), (29, 0), (30, 0), (30, 1), (30, 2), (30, 3), (30, 4), (31, 0), (32, 0), (32, 1), (32, 2), (32, 3)] (by decide +kernel) (by decide +kernel)
set_option maxRecDepth 20000 in
theorem gL_law_X10_init : GoodIn wsL_law (wsX10_init) := ggL_law_X10_init
set_option maxRecDepth 20000 in
theorem ggL_law_L_mineText : GoodIn wsL_law wsL_mineText := goodIn_k _ [(4, 21), (4, 22), (4, 23), (4, 20), (5, 0), (5, 1), (5, 2), (5, 3), (5, 4)] (by decide +kernel) (by decide +kernel)
set_option maxRecDepth 20000 in
theorem gL_law_L_mineText : GoodIn wsL_law (va_wsS RL 61 yL_mineText wsL_mineText) := goodIn_app (goodIn_of _ (by decide +kernel)) ggL_law_L_mineText
set_option maxRecDepth 20000 in
theorem ggL_law_L_write : GoodIn wsL_law wsL_write := goodIn_k _ [(5, 7), (5, 8), (5, 9), (5, 10), (0, 2), (5, 11), (0, 14), (5, 12), (5, 13), (5, 14), (0, 13), (5, 15), (5, 16), (5, 17), (5, 18), (5, 19), (5, 20), (5, 21), (5, 22), (5, 23), (2, 5), (6, 0), (6, 1), (6, 2), (6, 3), (2, 4), (6, 4), (2, 14), (22, 0), (22, 1), (22, 2), (22, 3), (22, 4), (22, 5), (22, 6), (22, 7), (22, 8), (22, 9), (22, 10), (22, 11), (22, 12), (22, 13), (22, 14), (23, 0), (23, 1), (23, 2), (31, 0)] (by decide +kernel) (by decide +kernel)
set_option maxRecDepth 20000 in
theorem gL_law_L_write : GoodIn wsL_law (va_wsS RL 65 yL_write wsL_write) := goodIn_app (goodIn_of _ (by decide +kernel)) ggL_law_L_write
set_option maxRecDepth 20000 in
theorem ggL_law_X10_fault : GoodIn wsL_law wsX10_fault := goodIn_k _ [(6, 8), (0, 14), (6, 9), (6, 10), (6, 11), (0, 13), (6, 12), (2, 9), (6, 0), (2, 5), (6, 13), (6, 14), (6, 15), (2, 8), (6, 16), (6, 17), (6, 18), (6, 19), (6, 20), (6, 21), (6, 22), (2, 4), (6, 23), (2, 14), (7, 0), (7, 1), (7, 2), (7, 3), (7, 4), (7, 5), (0, 2), (7, 6), (7, 7), (7, 8), (7, 9), (7, 10), (7, 11), (7, 12), (7, 13), (7, 14), (7, 15), (7, 16), (22, 0), (22, 1), (22, 2), (22, 3), (22, 4), (22, 5), (22, 6), (22, 7), (22, 8), (22, 9), (22, 10), (22, 11), (22, 12), (22, 13), (22, 14), (23, 0), (23, 1), (23, 2), (32, 0), (32, 1), (32, 2), (32, 3), (31, 0)] (by decide +kernel) (by decide +kernel)
set_option maxRecDepth 20000 in
theorem gL_law_X10_fault : GoodIn wsL_law (wsV RL 69 RX10 yX10_fault wsX10_fault) := goodIn_app (goodIn_of _ (by decide +kernel)) ggL_law_X10_fault
set_option maxRecDepth 20000 in
theorem ggL_law_X10_mine : GoodIn wsL_law wsX10_mine := goodIn_k _ [(7, 20), (0, 14), (0, 18), (5, 12), (1, 7), (7, 21), (1, 11), (7, 22), (7, 23), (8, 0), (8, 1), (8, 2), (0, 13), (8, 3), (6, 0), (2, 9), (8, 4), (6, 10), (6, 11), (6, 12), (2, 5), (6, 13), (6, 14), (6, 15), (2, 8), (6, 16), (6, 17), (6, 18), (6, 19), (6, 20), (6, 21), (6, 22), (2, 4), (6, 23), (2, 14), (7, 0), (7, 1), (7, 2), (7, 3), (7, 4), (7, 5), (0, 2), (7, 6), (7, 7), (7, 8), (7, 9), (7, 10), (7, 11), (7, 12), (7, 13), (7, 14), (7, 15), (7, 16), (8, 5), (8, 6), (8, 7), (8, 8), (8, 9), (8, 10), (8, 11), (8, 12), (8, 13), (8, 14), (8, 15), (8, 16), (8, 17), (8, 18), (0, 17), (8, 19), (8, 20), (8, 21), (8, 22), (2, 22), (2, 23), (3, 0), (8, 23), (9, 0), (9, 1), (9, 2), (9, 3), (9, 4), (6, 2), (6, 3), (6, 4), (9, 5), (9, 6), (9, 7), (9, 8), (3, 1), (9, 9), (9, 10), (9, 11), (9, 12), (9, 13), (9, 14), (9, 15), (9, 16), (9, 17), (9, 18), (9, 19), (9, 20), (9, 21), (1, 10), (9, 22), (9, 23), (10, 0), (4, 3), (10, 1), (10, 2), (10, 3), (10, 4), (10, 5), (10, 6), (10, 7), (0, 22), (10, 8), (10, 9), (1, 3), (10, 10), (10, 11), (10, 12), (0, 21), (10, 13), (3, 7), (3, 9), (10, 14), (10, 15), (10, 16), (10, 17), (10, 18), (10, 19), (10, 20), (10, 21), (10, 22), (10, 23), (11, 0), (11, 1), (11, 2), (11, 3), (11, 4), (11, 5), (11, 6), (11, 7), (11, 8), (11, 9), (11, 10), (11, 11), (11, 12), (11, 13), (11, 14), (11, 15), (11, 16), (3, 8), (11, 17), (11, 18), (11, 19), (11, 20), (11, 21), (11, 22), (11, 23), (12, 0), (12, 1), (12, 2), (12, 3), (12, 4), (1, 2), (12, 5), (3, 15), (12, 6), (12, 7), (12, 8), (12, 9), (12, 10), (12, 11), (12, 12), (12, 13), (12, 14), (12, 15), (12, 16), (12, 17), (12, 18), (12, 19), (12, 20), (12, 21), (12, 22), (12, 23), (13, 0), (13, 1), (22, 0), (22, 1), (22, 2), (22, 3), (22, 4), (22, 5), (22, 6), (22, 7), (22, 8), (22, 9), (22, 10), (22, 11), (22, 12), (22, 13), (22, 14), (23, 0), (23, 1), (23, 2), (27, 0), (27, 1), (24, 0), (24, 1), (24, 2), (24, 3), (24, 4), (24, 5), (24, 6), (32, 0), (32, 1), (32, 2), (32, 3), (31, 0), (28, 0), (28, 1), (28, 2), (28, 3), (28, 4), (28, 5), (25, 0), (25, 1), (25, 2), (25, 3), (26, 0)] (by decide +kernel) (by decide +kernel)
set_option maxRecDepth 20000 in
theorem gL_law_X10_mine : GoodIn wsL_law (wsV RL 73 RX10 yX10_mine wsX10_mine) := goodIn_app (goodIn_of _ (by decide +kernel)) ggL_law_X10_mine
set_option maxRecDepth 20000 in
theorem ggL_law_L_men : GoodIn wsL_law wsL_men := goodIn_k _ [(13, 4), (4, 22), (4, 23), (4, 20), (5, 0), (5, 1), (5, 2), (5, 3), (5, 4), (13, 5), (13, 6), (13, 7), (0, 2), (13, 8), (0, 18), (1, 7), (7, 21), (13, 9), (1, 11), (13, 10), (13, 11), (13, 12), (13, 13), (0, 17), (13, 14), (8, 20), (13, 15), (13, 16), (1, 6), (13, 17), (13, 18), (7, 5), (7, 6), (13, 19), (6, 2), (6, 3), (2, 4), (6, 4), (2, 14), (22, 0), (22, 1), (22, 2), (22, 3), (22, 4), (22, 5), (22, 6), (22, 7), (22, 8), (22, 9), (22, 10), (22, 11), (22, 12), (22, 13), (22, 14), (27, 0), (27, 1), (28, 0), (28, 1), (28, 2), (28, 3), (28, 4), (28, 5), (24, 0), (24, 1), (24, 2), (24, 3), (24, 4), (24, 5), (24, 6), (31, 0)] (by decide +kernel) (by decide +kernel)
set_option maxRecDepth 20000 in
theorem gL_law_L_men : GoodIn wsL_law (va_wsS RL 76 yL_men wsL_men) := goodIn_app (goodIn_of _ (by decide +kernel)) ggL_law_L_men
set_option maxRecDepth 20000 in
theorem ggL_law_L_stands : GoodIn wsL_law wsL_stands := goodIn_k _ [(13, 22), (13, 23), (14, 0), (4, 20), (14, 1), (0, 3), (14, 2), (14, 3), (14, 4), (14, 5), (14, 6), (14, 7), (14, 8), (14, 9), (14, 10), (14, 11), (14, 12), (14, 13), (0, 2), (14, 14), (0, 18), (14, 15), (14, 16), (14, 17), (14, 18), (1, 11), (10, 8), (0, 22), (14, 19), (14, 20), (14, 21), (14, 22), (0, 17), (14, 23), (8, 20), (15, 0), (6, 21), (6, 22), (2, 4), (6, 23), (2, 14), (15, 1), (7, 15), (7, 16), (15, 2), (15, 3), (15, 4), (15, 5), (15, 6), (15, 7), (15, 8), (15, 9), (13, 11), (13, 12), (13, 13), (13, 14), (13, 18), (7, 5), (7, 6), (15, 10), (15, 11), (15, 12), (15, 13), (15, 14), (15, 15), (15, 16), (1, 7), (13, 9), (13, 10), (15, 17), (15, 18), (15, 19), (15, 20), (1, 6), (15, 21), (15, 22), (15, 23), (16, 0), (16, 1), (16, 2), (3, 21), (16, 3), (16, 4), (16, 5), (16, 6), (16, 7), (16, 8), (16, 9), (16, 10), (7, 23), (16, 11), (7, 21), (10, 9), (16, 12), (0, 14), (5, 12), (7, 22), (16, 13), (16, 14), (8, 10), (8, 11), (8, 12), (8, 13), (8, 14), (8, 15), (22, 0), (22, 1), (22, 2), (22, 3), (22, 4), (22, 5), (22, 6), (22, 7), (22, 8), (22, 9), (22, 10), (22, 11), (22, 12), (22, 13), (22, 14), (24, 0), (24, 1), (24, 2), (24, 3), (24, 4), (24, 5), (24, 6), (28, 0), (28, 1), (28, 2), (28, 3), (28, 4), (28, 5), (25, 0), (25, 1), (25, 2), (25, 3), (31, 0), (27, 0), (27, 1), (23, 0), (23, 1), (23, 2)] (by decide +kernel) (by decide +kernel)
set_option maxRecDepth 20000 in
theorem gL_law_L_stands : GoodIn wsL_law (va_wsS RL 80 yL_stands wsL_stands) := goodIn_app (goodIn_of _ (by decide +kernel)) ggL_law_L_stands
set_option maxRecDepth 20000 in
theorem ggL_law_X10_as : GoodIn wsL_law wsX10_as := goodIn_k _ [(16, 18), (1, 7), (15, 18), (15, 19), (15, 20), (1, 6), (15, 21), (15, 22), (13, 15), (13, 16), (13, 17), (16, 19), (16, 20), (16, 21), (16, 22), (3, 21), (16, 3), (6, 21), (6, 22), (2, 4), (6, 23), (2, 14), (22, 0), (22, 1), (22, 2), (22, 3), (22, 4), (22, 5), (22, 6), (22, 7), (22, 8), (22, 9), (22, 10), (22, 11), (22, 12), (22, 13), (22, 14), (27, 0), (27, 1), (31, 0)] (by decide +kernel) (by decide +kernel)
set_option maxRecDepth 20000 in
theorem gL_law_X10_as : GoodIn wsL_law (wsV RL 84 RX10 yX10_as wsX10_as) := goodIn_app (goodIn_of _ (by decide +kernel)) ggL_law_X10_as
set_option maxRecDepth 20000 in
theorem ggL_law_L_cell : GoodIn wsL_law wsL_cell := goodIn_k _ [(5, 0), (5, 1)] (by decide +kernel) (by decide +kernel)
set_option maxRecDepth 20000 in
theorem gL_law_L_cell : GoodIn wsL_law (va_wsS RL 8 yL_cell wsL_cell) := goodIn_app (goodIn_of _ (by decide +kernel)) ggL_law_L_cell
set_option maxRecDepth 20000 in
theorem ggL_law_L_at : GoodIn wsL_law wsL_at := goodIn_k _ [(5, 4)] (by decide +kernel) (by decide +kernel)
set_option maxRecDepth 20000 in
theorem gL_law_L_at : GoodIn wsL_law (va_wsS RL 14 yL_at wsL_at) := goodIn_app (goodIn_of _ (by decide +kernel)) ggL_law_L_at
set_option maxRecDepth 20000 in
theorem ggL_law_X10_door : GoodIn wsL_law wsX10_door := goodIn_k _ [(17, 2), (0, 18), (14, 18), (1, 11), (10, 8), (14, 20), (14, 21), (14, 22), (0, 17), (14, 23), (8, 20), (15, 1), (7, 15), (0, 2), (7, 16), (10, 4), (10, 5), (10, 6), (10, 7), (0, 22), (10, 9), (1, 3), (10, 10), (10, 11), (10, 12), (0, 21), (10, 13), (3, 7), (3, 9), (10, 14), (10, 15), (10, 16), (10, 17), (10, 18), (10, 19), (10, 20), (10, 21), (10, 22), (6, 2), (6, 3), (2, 4), (6, 4), (2, 14), (10, 23), (6, 21), (6, 22), (6, 23), (11, 0), (11, 1), (11, 2), (11, 3), (11, 4), (11, 5), (11, 6), (11, 7), (8, 10), (8, 11), (8, 12), (8, 13), (8, 14), (8, 15), (11, 8), (11, 9), (11, 10), (11, 11), (3, 1), (8, 23), (11, 12), (11, 13), (11, 14), (11, 15), (11, 16), (3, 8), (11, 17), (11, 18), (11, 19), (11, 20), (11, 21), (11, 22), (11, 23), (12, 0), (12, 1), (12, 2), (12, 3), (12, 4), (1, 2), (12, 5), (3, 15), (12, 6), (9, 12), (9, 13), (9, 14), (12, 7), (12, 8), (12, 9), (12, 10), (12, 11), (2, 22), (2, 23), (12, 12), (12, 13), (12, 14), (12, 15), (12, 16), (12, 17), (12, 18), (12, 19), (12, 20), (12, 21), (12, 22), (12, 23), (13, 0), (13, 1), (22, 0), (22, 1), (22, 2), (22, 3), (22, 4), (22, 5), (22, 6), (22, 7), (22, 8), (22, 9), (22, 10), (22, 11), (22, 12), (22, 13), (22, 14), (24, 0), (24, 1), (24, 2), (24, 3), (24, 4), (24, 5), (24, 6), (28, 0), (28, 1), (28, 2), (28, 3), (28, 4), (28, 5), (25, 0), (25, 1), (25, 2), (25, 3), (31, 0), (26, 0)] (by decide +kernel) (by decide +kernel)
set_option maxRecDepth 20000 in
theorem gL_law_X10_door : GoodIn wsL_law (wsV RL 87 RX10 yX10_door wsX10_door) := goodIn_app (goodIn_of _ (by decide +kernel)) ggL_law_X10_door
set_option maxRecDepth 20000 in
theorem ggL_law_X10_turn : GoodIn wsL_law wsX10_turn := goodIn_k _ [(17, 6), (0, 18), (1, 11), (10, 9), (13, 11), (13, 12), (13, 13), (0, 17), (13, 14), (8, 20), (10, 4), (10, 5), (10, 6), (0, 2), (10, 7), (0, 22), (10, 8), (1, 3), (10, 10), (10, 11), (10, 12), (0, 21), (10, 13), (3, 7), (3, 9), (10, 14), (10, 15), (10, 16), (10, 17), (10, 18), (10, 19), (10, 20), (10, 21), (10, 22), (6, 2), (6, 3), (2, 4), (6, 4), (2, 14), (7, 15), (7, 16), (10, 23), (6, 21), (6, 22), (6, 23), (11, 0), (11, 1), (11, 2), (11, 3), (11, 4), (11, 5), (11, 6), (11, 7), (8, 10), (8, 11), (8, 12), (8, 13), (8, 14), (8, 15), (11, 8), (11, 9), (11, 10), (11, 11), (3, 1), (8, 23), (11, 12), (11, 13), (11, 14), (11, 15), (11, 16), (3, 8), (11, 17), (11, 18), (11, 19), (11, 20), (11, 21), (11, 22), (11, 23), (12, 0), (12, 1), (12, 2), (12, 3), (12, 4), (1, 2), (12, 5), (3, 15), (12, 6), (9, 12), (9, 13), (9, 14), (12, 7), (12, 8), (12, 9), (12, 10), (12, 11), (2, 22), (2, 23), (12, 12), (12, 13), (12, 14), (12, 15), (12, 16), (12, 17), (12, 18), (12, 19), (12, 20), (12, 21), (12, 22), (12, 23), (13, 0), (13, 1), (22, 0), (22, 1), (22, 2), (22, 3), (22, 4), (22, 5), (22, 6), (22, 7), (22, 8), (22, 9), (22, 10), (22, 11), (22, 12), (22, 13), (22, 14), (28, 0), (28, 1), (28, 2), (28, 3), (28, 4), (28, 5), (24, 0), (24, 1), (24, 2), (24, 3), (24, 4), (24, 5), (24, 6), (25, 0), (25, 1), (25, 2), (25, 3), (31, 0), (26, 0)] (by decide +kernel) (by decide +kernel)
end
section
set_option maxRecDepth 20000 in
theorem gL_law_X10_turn : GoodIn wsL_law (wsV RL 91 RX10 yX10_turn wsX10_turn) := goodIn_app (goodIn_of _ (by decide +kernel)) ggL_law_X10_turn
set_option maxRecDepth 20000 in
theorem ggL_law_L_smoke : GoodIn wsL_law wsL_smoke := goodIn_k _ [(17, 9), (0, 3), (13, 23), (14, 0), (4, 20), (14, 1), (14, 2), (14, 3), (14, 4), (14, 5), (14, 6), (14, 7), (14, 8), (14, 9), (14, 10), (17, 10), (17, 11), (17, 12), (17, 13), (17, 14), (17, 15), (0, 2), (17, 16), (0, 18), (1, 3), (13, 11), (13, 12), (13, 13), (0, 17), (13, 14), (8, 20), (13, 18), (7, 5), (7, 6), (17, 17), (12, 17), (12, 18), (1, 2), (12, 19), (3, 15), (12, 20), (6, 21), (6, 22), (2, 4), (6, 23), (2, 14), (17, 18), (17, 19), (17, 20), (17, 21), (0, 22), (17, 22), (17, 23), (18, 0), (18, 1), (9, 9), (7, 15), (7, 16), (18, 2), (18, 3), (18, 4), (0, 21), (18, 5), (10, 19), (3, 8), (10, 23), (18, 6), (12, 9), (12, 10), (12, 11), (2, 22), (2, 23), (8, 23), (22, 0), (22, 1), (22, 2), (22, 3), (22, 4), (22, 5), (22, 6), (22, 7), (22, 8), (22, 9), (22, 10), (22, 11), (22, 12), (22, 13), (22, 14), (24, 0), (24, 1), (24, 2), (24, 3), (24, 4), (24, 5), (24, 6), (26, 0), (31, 0), (25, 0), (25, 1), (25, 2), (25, 3)] (by decide +kernel) (by decide +kernel)
set_option maxRecDepth 20000 in
theorem gL_law_L_smoke : GoodIn wsL_law (va_wsS RL 94 yL_smoke wsL_smoke) := goodIn_app (goodIn_of _ (by decide +kernel)) ggL_law_L_smoke
set_option maxRecDepth 20000 in
theorem ggL_law_L_other : GoodIn wsL_law wsL_other := goodIn_k _ [(17, 12)] (by decide +kernel) (by decide +kernel)
set_option maxRecDepth 20000 in
theorem gL_law_L_other : GoodIn wsL_law (va_wsS RL 97 yL_other wsL_other) := goodIn_app (goodIn_of _ (by decide +kernel)) ggL_law_L_other
set_option maxRecDepth 20000 in
theorem ggL_law_X10_walk : GoodIn wsL_law wsX10_walk := goodIn_k _ [(18, 10), (1, 7), (0, 18), (1, 11), (13, 10), (10, 8), (15, 17), (15, 18), (15, 19), (15, 20), (1, 6), (15, 21), (15, 22), (14, 20), (14, 21), (14, 22), (0, 17), (14, 23), (8, 20), (15, 0), (6, 21), (6, 22), (2, 4), (6, 23), (2, 14), (15, 1), (7, 15), (0, 2), (7, 16), (16, 19), (16, 20), (16, 21), (16, 22), (3, 21), (16, 3), (18, 11), (18, 12), (18, 13), (18, 14), (2, 22), (2, 23), (8, 23), (18, 6), (12, 9), (12, 10), (12, 11), (13, 19), (6, 2), (6, 3), (6, 4), (22, 0), (22, 1), (22, 2), (22, 3), (22, 4), (22, 5), (22, 6), (22, 7), (22, 8), (22, 9), (22, 10), (22, 11), (22, 12), (22, 13), (22, 14), (28, 0), (28, 1), (28, 2), (28, 3), (28, 4), (28, 5), (27, 0), (27, 1), (24, 0), (24, 1), (24, 2), (24, 3), (24, 4), (24, 5), (24, 6), (31, 0)] (by decide +kernel) (by decide +kernel)
set_option maxRecDepth 20000 in
theorem gL_law_X10_walk : GoodIn wsL_law (wsV RL 101 RX10 yX10_walk wsX10_walk) := goodIn_app (goodIn_of _ (by decide +kernel)) ggL_law_X10_walk
set_option maxRecDepth 20000 in
theorem ggL_law_L_air : GoodIn wsL_law wsL_air := goodIn_k _ [(14, 1), (0, 3), (14, 2), (14, 3), (4, 20), (14, 4), (14, 5), (14, 6), (14, 7), (14, 8), (14, 9), (14, 10)] (by decide +kernel) (by decide +kernel)
set_option maxRecDepth 20000 in
theorem gL_law_L_air : GoodIn wsL_law (va_wsS RL 44 yL_air wsL_air) := goodIn_app (goodIn_of _ (by decide +kernel)) ggL_law_L_air
set_option maxRecDepth 20000 in
theorem ggL_law_L_minute : GoodIn wsL_law wsL_minute := goodIn_k _ [(18, 17), (15, 10), (15, 11), (4, 20), (15, 12), (16, 4), (16, 5), (16, 6)] (by decide +kernel) (by decide +kernel)
set_option maxRecDepth 20000 in
theorem gL_law_L_minute : GoodIn wsL_law (va_wsS RL 104 yL_minute wsL_minute) := goodIn_app (goodIn_of _ (by decide +kernel)) ggL_law_L_minute
set_option maxRecDepth 20000 in
theorem ggL_law_X10_minutes : GoodIn wsL_law wsX10_minutes := goodIn_k _ [(18, 21), (0, 18), (1, 11), (15, 17), (1, 7), (0, 22), (15, 8), (13, 11), (13, 12), (13, 13), (0, 17), (13, 14), (8, 20), (16, 14), (8, 10), (8, 11), (8, 12), (8, 13), (8, 14), (8, 15), (18, 22), (18, 23), (19, 0), (1, 10), (19, 1), (4, 3), (19, 2), (19, 3), (19, 4), (19, 5), (19, 6), (4, 4), (10, 1), (10, 2), (7, 15), (0, 2), (7, 16), (19, 7), (6, 21), (6, 22), (2, 4), (6, 23), (2, 14), (19, 8), (6, 2), (6, 3), (6, 4), (19, 9), (16, 0), (16, 1), (1, 6), (16, 2), (3, 21), (16, 3), (22, 0), (22, 1), (22, 2), (22, 3), (22, 4), (22, 5), (22, 6), (22, 7), (22, 8), (22, 9), (22, 10), (22, 11), (22, 12), (22, 13), (22, 14), (28, 0), (28, 1), (28, 2), (28, 3), (28, 4), (28, 5), (25, 0), (25, 1), (25, 2), (25, 3), (24, 0), (24, 1), (24, 2), (24, 3), (24, 4), (24, 5), (24, 6), (27, 0), (27, 1), (31, 0)] (by decide +kernel) (by decide +kernel)
set_option maxRecDepth 20000 in
theorem gL_law_X10_minutes : GoodIn wsL_law (wsV RL 108 RX10 yX10_minutes wsX10_minutes) := goodIn_app (goodIn_of _ (by decide +kernel)) ggL_law_X10_minutes
set_option maxRecDepth 20000 in
theorem ggL_law_L_walks : GoodIn wsL_law wsL_walks := goodIn_k _ [(19, 12), (0, 3), (19, 13), (19, 14), (19, 15), (19, 16), (13, 23), (14, 0), (4, 20), (14, 1), (14, 2), (14, 3), (14, 4), (14, 5), (14, 6), (14, 7), (14, 8), (14, 9), (14, 10), (17, 10), (17, 11), (17, 12), (18, 15), (18, 16), (18, 17), (15, 10), (15, 11), (15, 12), (16, 4), (16, 5), (16, 6), (19, 17), (19, 18), (19, 19), (0, 2), (19, 20), (0, 18), (1, 13), (1, 11), (1, 17), (19, 21), (1, 7), (0, 22), (15, 8), (15, 17), (13, 10), (15, 9), (13, 11), (13, 12), (13, 13), (0, 17), (13, 14), (8, 20), (19, 22), (19, 23), (20, 0), (1, 10), (20, 1), (9, 23), (10, 0), (4, 3), (4, 4), (10, 1), (10, 2), (20, 2), (20, 3), (20, 4), (2, 4), (20, 5), (2, 14), (20, 6), (6, 21), (6, 22), (6, 23), (20, 7), (20, 8), (20, 9), (20, 10), (7, 21), (10, 8), (20, 11), (20, 12), (20, 13), (1, 16), (20, 14), (20, 15), (20, 16), (20, 17), (20, 18), (20, 19), (15, 1), (7, 15), (7, 16), (15, 0), (20, 20), (20, 21), (20, 22), (20, 23), (21, 0), (18, 12), (18, 13), (18, 14), (2, 22), (2, 23), (8, 23), (16, 14), (8, 10), (8, 11), (8, 12), (8, 13), (8, 14), (8, 15), (21, 1), (21, 2), (21, 3), (21, 4), (21, 5), (21, 6), (21, 7), (18, 6), (12, 9), (12, 10), (12, 11), (13, 19), (6, 2), (6, 3), (6, 4), (18, 22), (18, 23), (19, 0), (19, 1), (19, 2), (19, 3), (19, 4), (19, 5), (19, 6), (19, 7), (19, 8), (19, 9), (16, 0), (16, 1), (1, 6), (16, 2), (3, 21), (16, 3), (15, 18), (15, 19), (15, 20), (15, 21), (15, 22), (21, 8), (21, 9), (21, 10), (21, 11), (22, 0), (22, 1), (22, 2), (22, 3), (22, 4), (22, 5), (22, 6), (22, 7), (22, 8), (22, 9), (22, 10), (22, 11), (22, 12), (22, 13), (22, 14), (29, 0), (25, 0), (25, 1), (25, 2), (25, 3), (28, 0), (28, 1), (28, 2), (28, 3), (28, 4), (28, 5), (24, 0), (24, 1), (24, 2), (24, 3), (24, 4), (24, 5), (24, 6), (31, 0), (27, 0), (27, 1)] (by decide +kernel) (by decide +kernel)
set_option maxRecDepth 20000 in
theorem gL_law_L_walks : GoodIn wsL_law (va_wsS RL 112 yL_walks wsL_walks) := goodIn_app (goodIn_of _ (by decide +kernel)) ggL_law_L_walks
set_option maxRecDepth 20000 in
theorem ggL_law_X10_gallery : GoodIn wsL_law wsX10_gallery := goodIn_k _ [(14, 14), (0, 18), (14, 15), (14, 16), (14, 17), (14, 18), (1, 11), (10, 8), (0, 22), (14, 19), (14, 20), (14, 21), (14, 22), (0, 17), (14, 23), (8, 20), (15, 0), (6, 21), (6, 22), (2, 4), (6, 23), (2, 14), (15, 1), (7, 15), (0, 2), (7, 16), (22, 0), (22, 1), (22, 2), (22, 3), (22, 4), (22, 5), (22, 6), (22, 7), (22, 8), (22, 9), (22, 10), (22, 11), (22, 12), (22, 13), (22, 14), (24, 0), (24, 1), (24, 2), (24, 3), (24, 4), (24, 5), (24, 6), (28, 0), (28, 1), (28, 2), (28, 3), (28, 4), (28, 5), (25, 0), (25, 1), (25, 2), (25, 3), (31, 0)] (by decide +kernel) (by decide +kernel)
set_option maxRecDepth 20000 in
theorem gL_law_X10_gallery : GoodIn wsL_law (wsV RL 48 RX10 yX10_gallery wsX10_gallery) := goodIn_app (goodIn_of _ (by decide +kernel)) ggL_law_X10_gallery
set_option maxRecDepth 20000 in
theorem ggL_law_X10_knot : GoodIn wsL_law wsX10_knot := goodIn_k _ [(15, 5), (0, 18), (15, 6), (0, 22), (15, 7), (15, 8), (1, 11), (15, 9), (13, 11), (13, 12), (13, 13), (0, 17), (13, 14), (8, 20), (13, 18), (7, 5), (0, 2), (7, 6), (15, 0), (6, 21), (6, 22), (2, 4), (6, 23), (2, 14), (15, 1), (7, 15), (7, 16), (22, 0), (22, 1), (22, 2), (22, 3), (22, 4), (22, 5), (22, 6), (22, 7), (22, 8), (22, 9), (22, 10), (22, 11), (22, 12), (22, 13), (22, 14), (24, 0), (24, 1), (24, 2), (24, 3), (24, 4), (24, 5), (24, 6), (25, 0), (25, 1), (25, 2), (25, 3), (28, 0), (28, 1), (28, 2), (28, 3), (28, 4), (28, 5), (31, 0)] (by decide +kernel) (by decide +kernel)
set_option maxRecDepth 20000 in
theorem gL_law_X10_knot : GoodIn wsL_law (wsV RL 51 RX10 yX10_knot wsX10_knot) := goodIn_app (goodIn_of _ (by decide +kernel)) ggL_law_X10_knot
set_option maxRecDepth 20000 in
theorem ggL_law_X10_man : GoodIn wsL_law wsX10_man := goodIn_k _ [(13, 8), (0, 18), (1, 7), (7, 21), (13, 9), (1, 11), (13, 10), (13, 11), (13, 12), (13, 13), (0, 17), (13, 14), (8, 20), (13, 15), (13, 16), (1, 6), (13, 17), (13, 18), (7, 5), (0, 2), (7, 6), (13, 19), (6, 2), (6, 3), (2, 4), (6, 4), (2, 14), (22, 0), (22, 1), (22, 2), (22, 3), (22, 4), (22, 5), (22, 6), (22, 7), (22, 8), (22, 9), (22, 10), (22, 11), (22, 12), (22, 13), (22, 14), (27, 0), (27, 1), (28, 0), (28, 1), (28, 2), (28, 3), (28, 4), (28, 5), (24, 0), (24, 1), (24, 2), (24, 3), (24, 4), (24, 5), (24, 6), (31, 0)] (by decide +kernel) (by decide +kernel)
set_option maxRecDepth 20000 in
theorem gL_law_X10_man : GoodIn wsL_law (wsV RL 24 RX10 yX10_man wsX10_man) := goodIn_app (goodIn_of _ (by decide +kernel)) ggL_law_X10_man
set_option maxRecDepth 20000 in
theorem ggL_law_X10_about : GoodIn wsL_law wsX10_about := goodIn_k _ [(15, 16), (1, 7), (13, 9), (1, 11), (13, 10), (15, 17), (15, 18), (15, 19), (15, 20), (1, 6), (15, 21), (15, 22), (15, 0), (6, 21), (6, 22), (2, 4), (6, 23), (2, 14), (15, 1), (7, 15), (0, 2), (7, 16), (15, 23), (16, 0), (16, 1), (16, 2), (3, 21), (16, 3), (22, 0), (22, 1), (22, 2), (22, 3), (22, 4), (22, 5), (22, 6), (22, 7), (22, 8), (22, 9), (22, 10), (22, 11), (22, 12), (22, 13), (22, 14), (27, 0), (27, 1), (28, 0), (28, 1), (28, 2), (28, 3), (28, 4), (28, 5), (31, 0)] (by decide +kernel) (by decide +kernel)
set_option maxRecDepth 20000 in
theorem gL_law_X10_about : GoodIn wsL_law (wsV RL 54 RX10 yX10_about wsX10_about) := goodIn_app (goodIn_of _ (by decide +kernel)) ggL_law_X10_about
set_option maxRecDepth 20000 in
theorem ggL_law_X10_smelt : GoodIn wsL_law wsX10_smelt := goodIn_k _ [(17, 16), (0, 18), (1, 3), (13, 11), (13, 12), (13, 13), (0, 17), (13, 14), (8, 20), (13, 18), (7, 5), (0, 2), (7, 6), (17, 17), (12, 17), (12, 18), (1, 2), (12, 19), (3, 15), (12, 20), (6, 21), (6, 22), (2, 4), (6, 23), (2, 14), (22, 0), (22, 1), (22, 2), (22, 3), (22, 4), (22, 5), (22, 6), (22, 7), (22, 8), (22, 9), (22, 10), (22, 11), (22, 12), (22, 13), (22, 14), (24, 0), (24, 1), (24, 2), (24, 3), (24, 4), (24, 5), (24, 6), (26, 0), (31, 0)] (by decide +kernel) (by decide +kernel)
set_option maxRecDepth 20000 in
theorem gL_law_X10_smelt : GoodIn wsL_law (wsV RL 116 RX10 yX10_smelt wsX10_smelt) := goodIn_app (goodIn_of _ (by decide +kernel)) ggL_law_X10_smelt
set_option maxRecDepth 20000 in
theorem ggL_law_X10_wayOut : GoodIn wsL_law wsX10_wayOut := goodIn_k _ [(17, 21), (0, 18), (0, 22), (13, 11), (13, 12), (13, 13), (0, 17), (13, 14), (8, 20), (13, 18), (7, 5), (0, 2), (7, 6), (17, 22), (17, 23), (18, 0), (18, 1), (9, 9), (7, 15), (7, 16), (18, 2), (18, 3), (18, 4), (0, 21), (18, 5), (10, 19), (3, 8), (10, 23), (6, 21), (6, 22), (2, 4), (6, 23), (2, 14), (18, 6), (12, 9), (12, 10), (12, 11), (2, 22), (2, 23), (8, 23), (22, 0), (22, 1), (22, 2), (22, 3), (22, 4), (22, 5), (22, 6), (22, 7), (22, 8), (22, 9), (22, 10), (22, 11), (22, 12), (22, 13), (22, 14), (24, 0), (24, 1), (24, 2), (24, 3), (24, 4), (24, 5), (24, 6), (25, 0), (25, 1), (25, 2), (25, 3), (31, 0)] (by decide +kernel) (by decide +kernel)
set_option maxRecDepth 20000 in
theorem gL_law_X10_wayOut : GoodIn wsL_law (wsV RL 119 RX10 yX10_wayOut wsX10_wayOut) := goodIn_app (goodIn_of _ (by decide +kernel)) ggL_law_X10_wayOut
set_option maxRecDepth 20000 in
theorem ggL_law_X10_walks : GoodIn wsL_law wsX10_walks := goodIn_k _ [(19, 20), (0, 18), (1, 13), (1, 11), (1, 17), (19, 21), (1, 7), (0, 22), (15, 8), (15, 17), (13, 10), (15, 9), (13, 11), (13, 12), (13, 13), (0, 17), (13, 14), (8, 20), (19, 22), (19, 23), (20, 0), (1, 10), (20, 1), (9, 23), (10, 0), (4, 3), (4, 4), (10, 1), (10, 2), (20, 2), (20, 3), (20, 4), (2, 4), (20, 5), (2, 14), (20, 6), (6, 21), (6, 22), (6, 23), (20, 7), (20, 8), (20, 9), (0, 2), (20, 10), (7, 21), (10, 8), (20, 11), (20, 12), (20, 13), (1, 16), (20, 14), (20, 15), (20, 16), (20, 17), (20, 18), (20, 19), (15, 1), (7, 15), (7, 16), (15, 0), (20, 20), (20, 21), (20, 22), (20, 23), (21, 0), (18, 12), (18, 13), (18, 14), (2, 22), (2, 23), (8, 23), (16, 14), (8, 10), (8, 11), (8, 12), (8, 13), (8, 14), (8, 15), (21, 1), (21, 2), (21, 3), (21, 4), (21, 5), (21, 6), (21, 7), (18, 6), (12, 9), (12, 10), (12, 11), (13, 19), (6, 2), (6, 3), (6, 4), (18, 22), (18, 23), (19, 0), (19, 1), (19, 2), (19, 3), (19, 4), (19, 5), (19, 6), (19, 7), (19, 8), (19, 9), (16, 0), (16, 1), (1, 6), (16, 2), (3, 21), (16, 3), (15, 18), (15, 19), (15, 20), (15, 21), (15, 22), (21, 8), (21, 9), (21, 10), (21, 11), (22, 0), (22, 1), (22, 2), (22, 3), (22, 4), (22, 5), (22, 6), (22, 7), (22, 8), (22, 9), (22, 10), (22, 11), (22, 12), (22, 13), (22, 14), (29, 0), (25, 0), (25, 1), (25, 2), (25, 3), (28, 0), (28, 1), (28, 2), (28, 3), (28, 4), (28, 5), (24, 0), (24, 1), (24, 2), (24, 3), (24, 4), (24, 5), (24, 6), (31, 0), (27, 0), (27, 1)] (by decide +kernel) (by decide +kernel)
set_option maxRecDepth 20000 in
theorem gL_law_X10_walks : GoodIn wsL_law (wsV RL 122 RX10 yX10_walks wsX10_walks) := goodIn_app (goodIn_of _ (by decide +kernel)) ggL_law_X10_walks
theorem dL_law_0 : decode cL_law 0 = .ok (.new 19, 3) := by decide +kernel
theorem dL_law_3 : decode cL_law 3 = .ok (.dup, 1) := by decide +kernel
theorem dL_law_4 : decode cL_law 4 = .ok (.invokespecial 60, 3) := by decide +kernel
theorem dL_law_7 : decode cL_law 7 = .ok (.astore_n 1, 1) := by decide +kernel
theorem dL_law_8 : decode cL_law 8 = .ok (.bipush 59, 2) := by decide +kernel
theorem dL_law_10 : decode cL_law 10 = .ok (.newarray .int, 2) := by decide +kernel
theorem dL_law_12 : decode cL_law 12 = .ok (.astore_n 2, 1) := by decide +kernel
theorem dL_law_13 : decode cL_law 13 = .ok (.bipush 22, 2) := by decide +kernel
theorem dL_law_15 : decode cL_law 15 = .ok (.newarray .int, 2) := by decide +kernel
theorem dL_law_17 : decode cL_law 17 = .ok (.astore_n 3, 1) := by decide +kernel
theorem dL_law_18 : decode cL_law 18 = .ok (.bipush 64, 2) := by decide +kernel
theorem dL_law_20 : decode cL_law 20 = .ok (.newarray .int, 2) := by decide +kernel
theorem dL_law_22 : decode cL_law 22 = .ok (.astore 4, 2) := by decide +kernel
theorem dL_law_24 : decode cL_law 24 = .ok (.aload_n 0, 1) := by decide +kernel
theorem dL_law_25 : decode cL_law 25 = .ok (.iconst 0, 1) := by decide +kernel
theorem dL_law_26 : decode cL_law 26 = .ok (.bipush 10, 2) := by decide +kernel
theorem dL_law_28 : decode cL_law 28 = .ok (.aload_n 2, 1) := by decide +kernel
theorem dL_law_29 : decode cL_law 29 = .ok (.aload 4, 2) := by decide +kernel
theorem dL_law_31 : decode cL_law 31 = .ok (.invokestatic 61, 3) := by decide +kernel
theorem dL_law_34 : decode cL_law 34 = .ok (.istore 5, 2) := by decide +kernel
theorem dL_law_36 : decode cL_law 36 = .ok (.aload_n 1, 1) := by decide +kernel
theorem dL_law_37 : decode cL_law 37 = .ok (.aload 4, 2) := by decide +kernel
theorem dL_law_39 : decode cL_law 39 = .ok (.iload 5, 2) := by decide +kernel
theorem dL_law_41 : decode cL_law 41 = .ok (.invokestatic 65, 3) := by decide +kernel
theorem dL_law_44 : decode cL_law 44 = .ok (.ifCond .eq 44, 3) := by decide +kernel
theorem dL_law_47 : decode cL_law 47 = .ok (.aload_n 1, 1) := by decide +kernel
theorem dL_law_48 : decode cL_law 48 = .ok (.invokevirtual 69, 3) := by decide +kernel
theorem dL_law_51 : decode cL_law 51 = .ok (.iload 5, 2) := by decide +kernel
theorem dL_law_53 : decode cL_law 53 = .ok (.if_icmp .ne 35, 3) := by decide +kernel
theorem dL_law_56 : decode cL_law 56 = .ok (.aload_n 1, 1) := by decide +kernel
theorem dL_law_57 : decode cL_law 57 = .ok (.invokevirtual 73, 3) := by decide +kernel
theorem dL_law_60 : decode cL_law 60 = .ok (.aload_n 2, 1) := by decide +kernel
theorem dL_law_61 : decode cL_law 61 = .ok (.iconst 0, 1) := by decide +kernel
theorem dL_law_62 : decode cL_law 62 = .ok (.iaload, 1) := by decide +kernel
theorem dL_law_63 : decode cL_law 63 = .ok (.if_icmp .ne 25, 3) := by decide +kernel
end
section
theorem dL_law_66 : decode cL_law 66 = .ok (.aload_n 1, 1) := by decide +kernel
theorem dL_law_67 : decode cL_law 67 = .ok (.aload_n 0, 1) := by decide +kernel
theorem dL_law_68 : decode cL_law 68 = .ok (.bipush 7, 2) := by decide +kernel
theorem dL_law_70 : decode cL_law 70 = .ok (.bipush 6, 2) := by decide +kernel
theorem dL_law_72 : decode cL_law 72 = .ok (.aload_n 3, 1) := by decide +kernel
theorem dL_law_73 : decode cL_law 73 = .ok (.invokestatic 76, 3) := by decide +kernel
theorem dL_law_76 : decode cL_law 76 = .ok (.ifCond .eq 12, 3) := by decide +kernel
theorem dL_law_79 : decode cL_law 79 = .ok (.aload_n 1, 1) := by decide +kernel
theorem dL_law_80 : decode cL_law 80 = .ok (.aload_n 2, 1) := by decide +kernel
theorem dL_law_81 : decode cL_law 81 = .ok (.aload_n 3, 1) := by decide +kernel
theorem dL_law_82 : decode cL_law 82 = .ok (.invokestatic 80, 3) := by decide +kernel
theorem dL_law_85 : decode cL_law 85 = .ok (.ifCond .ne 5, 3) := by decide +kernel
theorem dL_law_88 : decode cL_law 88 = .ok (.iconst 0, 1) := by decide +kernel
theorem dL_law_89 : decode cL_law 89 = .ok (.ireturn, 1) := by decide +kernel
theorem dL_law_90 : decode cL_law 90 = .ok (.iconst 0, 1) := by decide +kernel
theorem dL_law_91 : decode cL_law 91 = .ok (.istore 6, 2) := by decide +kernel
theorem dL_law_93 : decode cL_law 93 = .ok (.iload 6, 2) := by decide +kernel
theorem dL_law_95 : decode cL_law 95 = .ok (.aload_n 3, 1) := by decide +kernel
theorem dL_law_96 : decode cL_law 96 = .ok (.bipush 20, 2) := by decide +kernel
theorem dL_law_98 : decode cL_law 98 = .ok (.iaload, 1) := by decide +kernel
theorem dL_law_99 : decode cL_law 99 = .ok (.if_icmp .ge 77, 3) := by decide +kernel
theorem dL_law_102 : decode cL_law 102 = .ok (.iconst 0, 1) := by decide +kernel
theorem dL_law_103 : decode cL_law 103 = .ok (.istore 7, 2) := by decide +kernel
theorem dL_law_105 : decode cL_law 105 = .ok (.iload 7, 2) := by decide +kernel
theorem dL_law_107 : decode cL_law 107 = .ok (.iconst 5, 1) := by decide +kernel
theorem dL_law_108 : decode cL_law 108 = .ok (.if_icmp .ge 62, 3) := by decide +kernel
theorem dL_law_111 : decode cL_law 111 = .ok (.aload_n 1, 1) := by decide +kernel
theorem dL_law_112 : decode cL_law 112 = .ok (.iload 6, 2) := by decide +kernel
theorem dL_law_114 : decode cL_law 114 = .ok (.iload 7, 2) := by decide +kernel
theorem dL_law_116 : decode cL_law 116 = .ok (.invokevirtual 84, 3) := by decide +kernel
theorem dL_law_119 : decode cL_law 119 = .ok (.iload 7, 2) := by decide +kernel
theorem dL_law_121 : decode cL_law 121 = .ok (.ifCond .eq 32, 3) := by decide +kernel
theorem dL_law_124 : decode cL_law 124 = .ok (.iload 7, 2) := by decide +kernel
theorem dL_law_126 : decode cL_law 126 = .ok (.aload_n 3, 1) := by decide +kernel
theorem dL_law_127 : decode cL_law 127 = .ok (.bipush 7, 2) := by decide +kernel
theorem dL_law_129 : decode cL_law 129 = .ok (.iload 6, 2) := by decide +kernel
theorem dL_law_131 : decode cL_law 131 = .ok (.iadd, 1) := by decide +kernel
theorem dL_law_132 : decode cL_law 132 = .ok (.iaload, 1) := by decide +kernel
theorem dL_law_133 : decode cL_law 133 = .ok (.if_icmp .eq 20, 3) := by decide +kernel
theorem dL_law_136 : decode cL_law 136 = .ok (.iload 7, 2) := by decide +kernel
theorem dL_law_138 : decode cL_law 138 = .ok (.iconst 1, 1) := by decide +kernel
theorem dL_law_139 : decode cL_law 139 = .ok (.if_icmp .ne 19, 3) := by decide +kernel
theorem dL_law_142 : decode cL_law 142 = .ok (.aload_n 3, 1) := by decide +kernel
theorem dL_law_143 : decode cL_law 143 = .ok (.bipush 7, 2) := by decide +kernel
theorem dL_law_145 : decode cL_law 145 = .ok (.iload 6, 2) := by decide +kernel
theorem dL_law_147 : decode cL_law 147 = .ok (.iadd, 1) := by decide +kernel
theorem dL_law_148 : decode cL_law 148 = .ok (.iaload, 1) := by decide +kernel
theorem dL_law_149 : decode cL_law 149 = .ok (.iconst 4, 1) := by decide +kernel
theorem dL_law_150 : decode cL_law 150 = .ok (.if_icmp .ne 8, 3) := by decide +kernel
theorem dL_law_153 : decode cL_law 153 = .ok (.iload 6, 2) := by decide +kernel
theorem dL_law_155 : decode cL_law 155 = .ok (.goto 4, 3) := by decide +kernel
theorem dL_law_158 : decode cL_law 158 = .ok (.iconst (-1), 1) := by decide +kernel
theorem dL_law_159 : decode cL_law 159 = .ok (.if_icmp .eq 5, 3) := by decide +kernel
theorem dL_law_162 : decode cL_law 162 = .ok (.iconst 0, 1) := by decide +kernel
theorem dL_law_163 : decode cL_law 163 = .ok (.ireturn, 1) := by decide +kernel
theorem dL_law_164 : decode cL_law 164 = .ok (.iinc 7 1, 3) := by decide +kernel
theorem dL_law_167 : decode cL_law 167 = .ok (.goto (-62), 3) := by decide +kernel
theorem dL_law_170 : decode cL_law 170 = .ok (.iinc 6 1, 3) := by decide +kernel
theorem dL_law_173 : decode cL_law 173 = .ok (.goto (-80), 3) := by decide +kernel
theorem dL_law_176 : decode cL_law 176 = .ok (.iconst 0, 1) := by decide +kernel
theorem dL_law_177 : decode cL_law 177 = .ok (.istore 6, 2) := by decide +kernel
theorem dL_law_179 : decode cL_law 179 = .ok (.iload 6, 2) := by decide +kernel
theorem dL_law_181 : decode cL_law 181 = .ok (.bipush 12, 2) := by decide +kernel
theorem dL_law_183 : decode cL_law 183 = .ok (.if_icmp .ge 592, 3) := by decide +kernel
theorem dL_law_186 : decode cL_law 186 = .ok (.aload_n 0, 1) := by decide +kernel
theorem dL_law_187 : decode cL_law 187 = .ok (.bipush 9, 2) := by decide +kernel
theorem dL_law_189 : decode cL_law 189 = .ok (.iload 6, 2) := by decide +kernel
theorem dL_law_191 : decode cL_law 191 = .ok (.iadd, 1) := by decide +kernel
theorem dL_law_192 : decode cL_law 192 = .ok (.invokestatic 8, 3) := by decide +kernel
theorem dL_law_195 : decode cL_law 195 = .ok (.istore 7, 2) := by decide +kernel
theorem dL_law_197 : decode cL_law 197 = .ok (.iload 7, 2) := by decide +kernel
theorem dL_law_199 : decode cL_law 199 = .ok (.bipush 8, 2) := by decide +kernel
theorem dL_law_201 : decode cL_law 201 = .ok (.invokestatic 14, 3) := by decide +kernel
theorem dL_law_204 : decode cL_law 204 = .ok (.istore 8, 2) := by decide +kernel
theorem dL_law_206 : decode cL_law 206 = .ok (.iload 7, 2) := by decide +kernel
theorem dL_law_208 : decode cL_law 208 = .ok (.iconst 3, 1) := by decide +kernel
theorem dL_law_209 : decode cL_law 209 = .ok (.ishr, 1) := by decide +kernel
theorem dL_law_210 : decode cL_law 210 = .ok (.aload_n 2, 1) := by decide +kernel
theorem dL_law_211 : decode cL_law 211 = .ok (.iconst 0, 1) := by decide +kernel
theorem dL_law_212 : decode cL_law 212 = .ok (.iaload, 1) := by decide +kernel
theorem dL_law_213 : decode cL_law 213 = .ok (.invokestatic 14, 3) := by decide +kernel
theorem dL_law_216 : decode cL_law 216 = .ok (.istore 9, 2) := by decide +kernel
theorem dL_law_218 : decode cL_law 218 = .ok (.aload_n 3, 1) := by decide +kernel
theorem dL_law_219 : decode cL_law 219 = .ok (.bipush 20, 2) := by decide +kernel
theorem dL_law_221 : decode cL_law 221 = .ok (.iaload, 1) := by decide +kernel
theorem dL_law_222 : decode cL_law 222 = .ok (.ifCond .ne 7, 3) := by decide +kernel
theorem dL_law_225 : decode cL_law 225 = .ok (.iconst 0, 1) := by decide +kernel
theorem dL_law_226 : decode cL_law 226 = .ok (.goto 15, 3) := by decide +kernel
theorem dL_law_229 : decode cL_law 229 = .ok (.iload 7, 2) := by decide +kernel
theorem dL_law_231 : decode cL_law 231 = .ok (.bipush 7, 2) := by decide +kernel
theorem dL_law_233 : decode cL_law 233 = .ok (.ishr, 1) := by decide +kernel
theorem dL_law_234 : decode cL_law 234 = .ok (.aload_n 3, 1) := by decide +kernel
theorem dL_law_235 : decode cL_law 235 = .ok (.bipush 20, 2) := by decide +kernel
theorem dL_law_237 : decode cL_law 237 = .ok (.iaload, 1) := by decide +kernel
theorem dL_law_238 : decode cL_law 238 = .ok (.invokestatic 14, 3) := by decide +kernel
theorem dL_law_241 : decode cL_law 241 = .ok (.istore 10, 2) := by decide +kernel
theorem dL_law_243 : decode cL_law 243 = .ok (.iload 8, 2) := by decide +kernel
theorem dL_law_245 : decode cL_law 245 = .ok (.iconst 2, 1) := by decide +kernel
theorem dL_law_246 : decode cL_law 246 = .ok (.if_icmp .ge 88, 3) := by decide +kernel
theorem dL_law_249 : decode cL_law 249 = .ok (.iload 7, 2) := by decide +kernel
theorem dL_law_251 : decode cL_law 251 = .ok (.bipush 10, 2) := by decide +kernel
theorem dL_law_253 : decode cL_law 253 = .ok (.ishr, 1) := by decide +kernel
theorem dL_law_254 : decode cL_law 254 = .ok (.iconst 2, 1) := by decide +kernel
theorem dL_law_255 : decode cL_law 255 = .ok (.invokestatic 14, 3) := by decide +kernel
theorem dL_law_258 : decode cL_law 258 = .ok (.ifCond .ne 7, 3) := by decide +kernel
theorem dL_law_261 : decode cL_law 261 = .ok (.iconst 1, 1) := by decide +kernel
theorem dL_law_262 : decode cL_law 262 = .ok (.goto 4, 3) := by decide +kernel
theorem dL_law_265 : decode cL_law 265 = .ok (.iconst 0, 1) := by decide +kernel
theorem dL_law_266 : decode cL_law 266 = .ok (.istore 11, 2) := by decide +kernel
theorem dL_law_268 : decode cL_law 268 = .ok (.aload_n 1, 1) := by decide +kernel
theorem dL_law_269 : decode cL_law 269 = .ok (.iload 9, 2) := by decide +kernel
theorem dL_law_271 : decode cL_law 271 = .ok (.iload 11, 2) := by decide +kernel
theorem dL_law_273 : decode cL_law 273 = .ok (.invokevirtual 87, 3) := by decide +kernel
theorem dL_law_276 : decode cL_law 276 = .ok (.aload_n 2, 1) := by decide +kernel
theorem dL_law_277 : decode cL_law 277 = .ok (.bipush 31, 2) := by decide +kernel
theorem dL_law_279 : decode cL_law 279 = .ok (.iload 9, 2) := by decide +kernel
theorem dL_law_281 : decode cL_law 281 = .ok (.iadd, 1) := by decide +kernel
theorem dL_law_282 : decode cL_law 282 = .ok (.iaload, 1) := by decide +kernel
theorem dL_law_283 : decode cL_law 283 = .ok (.ifCond .ne 8, 3) := by decide +kernel
theorem dL_law_286 : decode cL_law 286 = .ok (.bipush (-103), 2) := by decide +kernel
theorem dL_law_288 : decode cL_law 288 = .ok (.goto 10, 3) := by decide +kernel
theorem dL_law_291 : decode cL_law 291 = .ok (.aload_n 2, 1) := by decide +kernel
theorem dL_law_292 : decode cL_law 292 = .ok (.bipush 41, 2) := by decide +kernel
theorem dL_law_294 : decode cL_law 294 = .ok (.iload 9, 2) := by decide +kernel
theorem dL_law_296 : decode cL_law 296 = .ok (.iadd, 1) := by decide +kernel
theorem dL_law_297 : decode cL_law 297 = .ok (.iaload, 1) := by decide +kernel
theorem dL_law_298 : decode cL_law 298 = .ok (.if_icmp .eq 5, 3) := by decide +kernel
theorem dL_law_301 : decode cL_law 301 = .ok (.iconst 0, 1) := by decide +kernel
theorem dL_law_302 : decode cL_law 302 = .ok (.ireturn, 1) := by decide +kernel
theorem dL_law_303 : decode cL_law 303 = .ok (.aload_n 2, 1) := by decide +kernel
theorem dL_law_304 : decode cL_law 304 = .ok (.bipush 31, 2) := by decide +kernel
theorem dL_law_306 : decode cL_law 306 = .ok (.iload 9, 2) := by decide +kernel
theorem dL_law_308 : decode cL_law 308 = .ok (.iadd, 1) := by decide +kernel
theorem dL_law_309 : decode cL_law 309 = .ok (.iaload, 1) := by decide +kernel
theorem dL_law_310 : decode cL_law 310 = .ok (.iconst 1, 1) := by decide +kernel
theorem dL_law_311 : decode cL_law 311 = .ok (.if_icmp .ne 20, 3) := by decide +kernel
theorem dL_law_314 : decode cL_law 314 = .ok (.aload_n 2, 1) := by decide +kernel
theorem dL_law_315 : decode cL_law 315 = .ok (.bipush 41, 2) := by decide +kernel
theorem dL_law_317 : decode cL_law 317 = .ok (.iload 9, 2) := by decide +kernel
theorem dL_law_319 : decode cL_law 319 = .ok (.iadd, 1) := by decide +kernel
theorem dL_law_320 : decode cL_law 320 = .ok (.iload 11, 2) := by decide +kernel
theorem dL_law_322 : decode cL_law 322 = .ok (.ifCond .eq 7, 3) := by decide +kernel
theorem dL_law_325 : decode cL_law 325 = .ok (.iconst 1, 1) := by decide +kernel
theorem dL_law_326 : decode cL_law 326 = .ok (.goto 4, 3) := by decide +kernel
theorem dL_law_329 : decode cL_law 329 = .ok (.iconst 0, 1) := by decide +kernel
theorem dL_law_330 : decode cL_law 330 = .ok (.iastore, 1) := by decide +kernel
theorem dL_law_331 : decode cL_law 331 = .ok (.goto 427, 3) := by decide +kernel
theorem dL_law_334 : decode cL_law 334 = .ok (.iload 8, 2) := by decide +kernel
theorem dL_law_336 : decode cL_law 336 = .ok (.iconst 2, 1) := by decide +kernel
theorem dL_law_337 : decode cL_law 337 = .ok (.if_icmp .ne 58, 3) := by decide +kernel
theorem dL_law_340 : decode cL_law 340 = .ok (.iload 7, 2) := by decide +kernel
theorem dL_law_342 : decode cL_law 342 = .ok (.bipush 10, 2) := by decide +kernel
theorem dL_law_344 : decode cL_law 344 = .ok (.ishr, 1) := by decide +kernel
theorem dL_law_345 : decode cL_law 345 = .ok (.iconst 3, 1) := by decide +kernel
theorem dL_law_346 : decode cL_law 346 = .ok (.invokestatic 14, 3) := by decide +kernel
theorem dL_law_349 : decode cL_law 349 = .ok (.ifCond .ne 26, 3) := by decide +kernel
theorem dL_law_352 : decode cL_law 352 = .ok (.aload_n 2, 1) := by decide +kernel
theorem dL_law_353 : decode cL_law 353 = .ok (.bipush 51, 2) := by decide +kernel
theorem dL_law_355 : decode cL_law 355 = .ok (.iconst 1, 1) := by decide +kernel
theorem dL_law_356 : decode cL_law 356 = .ok (.aload_n 2, 1) := by decide +kernel
theorem dL_law_357 : decode cL_law 357 = .ok (.bipush 51, 2) := by decide +kernel
theorem dL_law_359 : decode cL_law 359 = .ok (.iaload, 1) := by decide +kernel
theorem dL_law_360 : decode cL_law 360 = .ok (.isub, 1) := by decide +kernel
theorem dL_law_361 : decode cL_law 361 = .ok (.iastore, 1) := by decide +kernel
theorem dL_law_362 : decode cL_law 362 = .ok (.aload_n 1, 1) := by decide +kernel
theorem dL_law_363 : decode cL_law 363 = .ok (.invokevirtual 91, 3) := by decide +kernel
theorem dL_law_366 : decode cL_law 366 = .ok (.aload_n 2, 1) := by decide +kernel
theorem dL_law_367 : decode cL_law 367 = .ok (.bipush 51, 2) := by decide +kernel
theorem dL_law_369 : decode cL_law 369 = .ok (.iaload, 1) := by decide +kernel
theorem dL_law_370 : decode cL_law 370 = .ok (.if_icmp .eq 5, 3) := by decide +kernel
theorem dL_law_373 : decode cL_law 373 = .ok (.iconst 0, 1) := by decide +kernel
theorem dL_law_374 : decode cL_law 374 = .ok (.ireturn, 1) := by decide +kernel
theorem dL_law_375 : decode cL_law 375 = .ok (.aload_n 1, 1) := by decide +kernel
theorem dL_law_376 : decode cL_law 376 = .ok (.aload_n 2, 1) := by decide +kernel
theorem dL_law_377 : decode cL_law 377 = .ok (.iload 7, 2) := by decide +kernel
theorem dL_law_379 : decode cL_law 379 = .ok (.bipush 12, 2) := by decide +kernel
theorem dL_law_381 : decode cL_law 381 = .ok (.ishr, 1) := by decide +kernel
theorem dL_law_382 : decode cL_law 382 = .ok (.bipush 7, 2) := by decide +kernel
theorem dL_law_384 : decode cL_law 384 = .ok (.invokestatic 14, 3) := by decide +kernel
theorem dL_law_387 : decode cL_law 387 = .ok (.invokestatic 94, 3) := by decide +kernel
theorem dL_law_390 : decode cL_law 390 = .ok (.ifCond .ne 368, 3) := by decide +kernel
theorem dL_law_393 : decode cL_law 393 = .ok (.iconst 0, 1) := by decide +kernel
theorem dL_law_394 : decode cL_law 394 = .ok (.ireturn, 1) := by decide +kernel
theorem dL_law_395 : decode cL_law 395 = .ok (.iload 8, 2) := by decide +kernel
theorem dL_law_397 : decode cL_law 397 = .ok (.iconst 5, 1) := by decide +kernel
theorem dL_law_398 : decode cL_law 398 = .ok (.if_icmp .ge 226, 3) := by decide +kernel
theorem dL_law_401 : decode cL_law 401 = .ok (.aload_n 3, 1) := by decide +kernel
theorem dL_law_402 : decode cL_law 402 = .ok (.bipush 20, 2) := by decide +kernel
theorem dL_law_404 : decode cL_law 404 = .ok (.iaload, 1) := by decide +kernel
theorem dL_law_405 : decode cL_law 405 = .ok (.ifCond .le 219, 3) := by decide +kernel
theorem dL_law_408 : decode cL_law 408 = .ok (.iconst 0, 1) := by decide +kernel
theorem dL_law_409 : decode cL_law 409 = .ok (.istore 11, 2) := by decide +kernel
theorem dL_law_411 : decode cL_law 411 = .ok (.iload 11, 2) := by decide +kernel
theorem dL_law_413 : decode cL_law 413 = .ok (.aload_n 2, 1) := by decide +kernel
theorem dL_law_414 : decode cL_law 414 = .ok (.iconst 0, 1) := by decide +kernel
theorem dL_law_415 : decode cL_law 415 = .ok (.iaload, 1) := by decide +kernel
theorem dL_law_416 : decode cL_law 416 = .ok (.if_icmp .ge 64, 3) := by decide +kernel
theorem dL_law_419 : decode cL_law 419 = .ok (.iload 7, 2) := by decide +kernel
theorem dL_law_421 : decode cL_law 421 = .ok (.bipush 10, 2) := by decide +kernel
theorem dL_law_423 : decode cL_law 423 = .ok (.ishr, 1) := by decide +kernel
theorem dL_law_424 : decode cL_law 424 = .ok (.iconst 4, 1) := by decide +kernel
theorem dL_law_425 : decode cL_law 425 = .ok (.invokestatic 14, 3) := by decide +kernel
theorem dL_law_428 : decode cL_law 428 = .ok (.ifCond .le 52, 3) := by decide +kernel
theorem dL_law_431 : decode cL_law 431 = .ok (.aload_n 2, 1) := by decide +kernel
theorem dL_law_432 : decode cL_law 432 = .ok (.iconst 1, 1) := by decide +kernel
theorem dL_law_433 : decode cL_law 433 = .ok (.iload 9, 2) := by decide +kernel
theorem dL_law_435 : decode cL_law 435 = .ok (.iadd, 1) := by decide +kernel
theorem dL_law_436 : decode cL_law 436 = .ok (.iaload, 1) := by decide +kernel
theorem dL_law_437 : decode cL_law 437 = .ok (.aload_n 3, 1) := by decide +kernel
theorem dL_law_438 : decode cL_law 438 = .ok (.bipush 13, 2) := by decide +kernel
theorem dL_law_440 : decode cL_law 440 = .ok (.iload 10, 2) := by decide +kernel
theorem dL_law_442 : decode cL_law 442 = .ok (.iadd, 1) := by decide +kernel
theorem dL_law_443 : decode cL_law 443 = .ok (.iaload, 1) := by decide +kernel
theorem dL_law_444 : decode cL_law 444 = .ok (.if_icmp .eq 36, 3) := by decide +kernel
theorem dL_law_447 : decode cL_law 447 = .ok (.aload_n 2, 1) := by decide +kernel
theorem dL_law_448 : decode cL_law 448 = .ok (.bipush 11, 2) := by decide +kernel
theorem dL_law_450 : decode cL_law 450 = .ok (.iload 9, 2) := by decide +kernel
theorem dL_law_452 : decode cL_law 452 = .ok (.iadd, 1) := by decide +kernel
theorem dL_law_453 : decode cL_law 453 = .ok (.iaload, 1) := by decide +kernel
theorem dL_law_454 : decode cL_law 454 = .ok (.aload_n 3, 1) := by decide +kernel
theorem dL_law_455 : decode cL_law 455 = .ok (.bipush 13, 2) := by decide +kernel
theorem dL_law_457 : decode cL_law 457 = .ok (.iload 10, 2) := by decide +kernel
theorem dL_law_459 : decode cL_law 459 = .ok (.iadd, 1) := by decide +kernel
theorem dL_law_460 : decode cL_law 460 = .ok (.iaload, 1) := by decide +kernel
theorem dL_law_461 : decode cL_law 461 = .ok (.if_icmp .eq 19, 3) := by decide +kernel
theorem dL_law_464 : decode cL_law 464 = .ok (.iload 9, 2) := by decide +kernel
theorem dL_law_466 : decode cL_law 466 = .ok (.iconst 1, 1) := by decide +kernel
theorem dL_law_467 : decode cL_law 467 = .ok (.iadd, 1) := by decide +kernel
theorem dL_law_468 : decode cL_law 468 = .ok (.aload_n 2, 1) := by decide +kernel
theorem dL_law_469 : decode cL_law 469 = .ok (.iconst 0, 1) := by decide +kernel
theorem dL_law_470 : decode cL_law 470 = .ok (.iaload, 1) := by decide +kernel
theorem dL_law_471 : decode cL_law 471 = .ok (.irem, 1) := by decide +kernel
theorem dL_law_472 : decode cL_law 472 = .ok (.istore 9, 2) := by decide +kernel
theorem dL_law_474 : decode cL_law 474 = .ok (.iinc 11 1, 3) := by decide +kernel
theorem dL_law_477 : decode cL_law 477 = .ok (.goto (-66), 3) := by decide +kernel
theorem dL_law_480 : decode cL_law 480 = .ok (.aload_n 2, 1) := by decide +kernel
theorem dL_law_481 : decode cL_law 481 = .ok (.iconst 1, 1) := by decide +kernel
theorem dL_law_482 : decode cL_law 482 = .ok (.iload 9, 2) := by decide +kernel
theorem dL_law_484 : decode cL_law 484 = .ok (.iadd, 1) := by decide +kernel
theorem dL_law_485 : decode cL_law 485 = .ok (.iaload, 1) := by decide +kernel
theorem dL_law_486 : decode cL_law 486 = .ok (.aload_n 3, 1) := by decide +kernel
theorem dL_law_487 : decode cL_law 487 = .ok (.bipush 13, 2) := by decide +kernel
theorem dL_law_489 : decode cL_law 489 = .ok (.iload 10, 2) := by decide +kernel
theorem dL_law_491 : decode cL_law 491 = .ok (.iadd, 1) := by decide +kernel
theorem dL_law_492 : decode cL_law 492 = .ok (.iaload, 1) := by decide +kernel
theorem dL_law_493 : decode cL_law 493 = .ok (.if_icmp .eq 20, 3) := by decide +kernel
theorem dL_law_496 : decode cL_law 496 = .ok (.aload_n 2, 1) := by decide +kernel
theorem dL_law_497 : decode cL_law 497 = .ok (.bipush 11, 2) := by decide +kernel
theorem dL_law_499 : decode cL_law 499 = .ok (.iload 9, 2) := by decide +kernel
theorem dL_law_501 : decode cL_law 501 = .ok (.iadd, 1) := by decide +kernel
theorem dL_law_502 : decode cL_law 502 = .ok (.iaload, 1) := by decide +kernel
theorem dL_law_503 : decode cL_law 503 = .ok (.aload_n 3, 1) := by decide +kernel
theorem dL_law_504 : decode cL_law 504 = .ok (.bipush 13, 2) := by decide +kernel
theorem dL_law_506 : decode cL_law 506 = .ok (.iload 10, 2) := by decide +kernel
theorem dL_law_508 : decode cL_law 508 = .ok (.iadd, 1) := by decide +kernel
theorem dL_law_509 : decode cL_law 509 = .ok (.iaload, 1) := by decide +kernel
theorem dL_law_510 : decode cL_law 510 = .ok (.if_icmp .ne 7, 3) := by decide +kernel
theorem dL_law_513 : decode cL_law 513 = .ok (.iconst 1, 1) := by decide +kernel
theorem dL_law_514 : decode cL_law 514 = .ok (.goto 4, 3) := by decide +kernel
theorem dL_law_517 : decode cL_law 517 = .ok (.iconst 0, 1) := by decide +kernel
theorem dL_law_518 : decode cL_law 518 = .ok (.istore 11, 2) := by decide +kernel
theorem dL_law_520 : decode cL_law 520 = .ok (.iload 11, 2) := by decide +kernel
theorem dL_law_522 : decode cL_law 522 = .ok (.ifCond .eq 41, 3) := by decide +kernel
theorem dL_law_525 : decode cL_law 525 = .ok (.aload_n 3, 1) := by decide +kernel
theorem dL_law_526 : decode cL_law 526 = .ok (.bipush 19, 2) := by decide +kernel
theorem dL_law_528 : decode cL_law 528 = .ok (.iaload, 1) := by decide +kernel
theorem dL_law_529 : decode cL_law 529 = .ok (.iload 10, 2) := by decide +kernel
theorem dL_law_531 : decode cL_law 531 = .ok (.ishr, 1) := by decide +kernel
theorem dL_law_532 : decode cL_law 532 = .ok (.iconst 1, 1) := by decide +kernel
theorem dL_law_533 : decode cL_law 533 = .ok (.iand, 1) := by decide +kernel
theorem dL_law_534 : decode cL_law 534 = .ok (.ifCond .ne 29, 3) := by decide +kernel
theorem dL_law_537 : decode cL_law 537 = .ok (.aload_n 2, 1) := by decide +kernel
theorem dL_law_538 : decode cL_law 538 = .ok (.bipush 41, 2) := by decide +kernel
theorem dL_law_540 : decode cL_law 540 = .ok (.iload 9, 2) := by decide +kernel
theorem dL_law_542 : decode cL_law 542 = .ok (.iadd, 1) := by decide +kernel
theorem dL_law_543 : decode cL_law 543 = .ok (.iaload, 1) := by decide +kernel
theorem dL_law_544 : decode cL_law 544 = .ok (.iconst 1, 1) := by decide +kernel
theorem dL_law_545 : decode cL_law 545 = .ok (.if_icmp .eq 14, 3) := by decide +kernel
theorem dL_law_548 : decode cL_law 548 = .ok (.aload_n 3, 1) := by decide +kernel
theorem dL_law_549 : decode cL_law 549 = .ok (.bipush 7, 2) := by decide +kernel
theorem dL_law_551 : decode cL_law 551 = .ok (.iload 10, 2) := by decide +kernel
theorem dL_law_553 : decode cL_law 553 = .ok (.iadd, 1) := by decide +kernel
theorem dL_law_554 : decode cL_law 554 = .ok (.iaload, 1) := by decide +kernel
theorem dL_law_555 : decode cL_law 555 = .ok (.iconst 3, 1) := by decide +kernel
theorem dL_law_556 : decode cL_law 556 = .ok (.if_icmp .ne 7, 3) := by decide +kernel
theorem dL_law_559 : decode cL_law 559 = .ok (.iconst 1, 1) := by decide +kernel
theorem dL_law_560 : decode cL_law 560 = .ok (.goto 4, 3) := by decide +kernel
theorem dL_law_563 : decode cL_law 563 = .ok (.iconst 0, 1) := by decide +kernel
theorem dL_law_564 : decode cL_law 564 = .ok (.istore 12, 2) := by decide +kernel
theorem dL_law_566 : decode cL_law 566 = .ok (.iload 12, 2) := by decide +kernel
theorem dL_law_568 : decode cL_law 568 = .ok (.ifCond .eq 23, 3) := by decide +kernel
theorem dL_law_571 : decode cL_law 571 = .ok (.aload_n 3, 1) := by decide +kernel
theorem dL_law_572 : decode cL_law 572 = .ok (.bipush 13, 2) := by decide +kernel
theorem dL_law_574 : decode cL_law 574 = .ok (.iload 10, 2) := by decide +kernel
theorem dL_law_576 : decode cL_law 576 = .ok (.iadd, 1) := by decide +kernel
theorem dL_law_577 : decode cL_law 577 = .ok (.aload_n 2, 1) := by decide +kernel
theorem dL_law_578 : decode cL_law 578 = .ok (.iload 9, 2) := by decide +kernel
theorem dL_law_580 : decode cL_law 580 = .ok (.aload_n 3, 1) := by decide +kernel
theorem dL_law_581 : decode cL_law 581 = .ok (.bipush 13, 2) := by decide +kernel
theorem dL_law_583 : decode cL_law 583 = .ok (.iload 10, 2) := by decide +kernel
theorem dL_law_585 : decode cL_law 585 = .ok (.iadd, 1) := by decide +kernel
theorem dL_law_586 : decode cL_law 586 = .ok (.iaload, 1) := by decide +kernel
theorem dL_law_587 : decode cL_law 587 = .ok (.invokestatic 97, 3) := by decide +kernel
theorem dL_law_590 : decode cL_law 590 = .ok (.iastore, 1) := by decide +kernel
theorem dL_law_591 : decode cL_law 591 = .ok (.aload_n 1, 1) := by decide +kernel
theorem dL_law_592 : decode cL_law 592 = .ok (.iload 10, 2) := by decide +kernel
theorem dL_law_594 : decode cL_law 594 = .ok (.iload 9, 2) := by decide +kernel
theorem dL_law_596 : decode cL_law 596 = .ok (.invokevirtual 101, 3) := by decide +kernel
theorem dL_law_599 : decode cL_law 599 = .ok (.iload 12, 2) := by decide +kernel
theorem dL_law_601 : decode cL_law 601 = .ok (.ifCond .eq 13, 3) := by decide +kernel
theorem dL_law_604 : decode cL_law 604 = .ok (.aload_n 3, 1) := by decide +kernel
theorem dL_law_605 : decode cL_law 605 = .ok (.bipush 13, 2) := by decide +kernel
theorem dL_law_607 : decode cL_law 607 = .ok (.iload 10, 2) := by decide +kernel
theorem dL_law_609 : decode cL_law 609 = .ok (.iadd, 1) := by decide +kernel
theorem dL_law_610 : decode cL_law 610 = .ok (.iaload, 1) := by decide +kernel
theorem dL_law_611 : decode cL_law 611 = .ok (.goto 5, 3) := by decide +kernel
theorem dL_law_614 : decode cL_law 614 = .ok (.bipush (-103), 2) := by decide +kernel
theorem dL_law_616 : decode cL_law 616 = .ok (.if_icmp .eq 5, 3) := by decide +kernel
theorem dL_law_619 : decode cL_law 619 = .ok (.iconst 0, 1) := by decide +kernel
theorem dL_law_620 : decode cL_law 620 = .ok (.ireturn, 1) := by decide +kernel
theorem dL_law_621 : decode cL_law 621 = .ok (.goto 137, 3) := by decide +kernel
theorem dL_law_624 : decode cL_law 624 = .ok (.iload 8, 2) := by decide +kernel
theorem dL_law_626 : decode cL_law 626 = .ok (.bipush 7, 2) := by decide +kernel
theorem dL_law_628 : decode cL_law 628 = .ok (.if_icmp .ge 95, 3) := by decide +kernel
theorem dL_law_631 : decode cL_law 631 = .ok (.iconst 1, 1) := by decide +kernel
theorem dL_law_632 : decode cL_law 632 = .ok (.iload 7, 2) := by decide +kernel
theorem dL_law_634 : decode cL_law 634 = .ok (.bipush 10, 2) := by decide +kernel
theorem dL_law_636 : decode cL_law 636 = .ok (.ishr, 1) := by decide +kernel
theorem dL_law_637 : decode cL_law 637 = .ok (.iload 7, 2) := by decide +kernel
theorem dL_law_639 : decode cL_law 639 = .ok (.bipush 16, 2) := by decide +kernel
theorem dL_law_641 : decode cL_law 641 = .ok (.ishr, 1) := by decide +kernel
theorem dL_law_642 : decode cL_law 642 = .ok (.iconst 5, 1) := by decide +kernel
theorem dL_law_643 : decode cL_law 643 = .ok (.invokestatic 14, 3) := by decide +kernel
theorem dL_law_646 : decode cL_law 646 = .ok (.ifCond .ne 8, 3) := by decide +kernel
theorem dL_law_649 : decode cL_law 649 = .ok (.bipush 60, 2) := by decide +kernel
theorem dL_law_651 : decode cL_law 651 = .ok (.goto 4, 3) := by decide +kernel
theorem dL_law_654 : decode cL_law 654 = .ok (.iconst 3, 1) := by decide +kernel
theorem dL_law_655 : decode cL_law 655 = .ok (.invokestatic 14, 3) := by decide +kernel
theorem dL_law_658 : decode cL_law 658 = .ok (.iadd, 1) := by decide +kernel
theorem dL_law_659 : decode cL_law 659 = .ok (.istore 11, 2) := by decide +kernel
theorem dL_law_661 : decode cL_law 661 = .ok (.iconst 0, 1) := by decide +kernel
theorem dL_law_662 : decode cL_law 662 = .ok (.istore 12, 2) := by decide +kernel
theorem dL_law_664 : decode cL_law 664 = .ok (.aload_n 2, 1) := by decide +kernel
theorem dL_law_665 : decode cL_law 665 = .ok (.invokestatic 44, 3) := by decide +kernel
theorem dL_law_668 : decode cL_law 668 = .ok (.astore 13, 2) := by decide +kernel
theorem dL_law_670 : decode cL_law 670 = .ok (.iconst 0, 1) := by decide +kernel
theorem dL_law_671 : decode cL_law 671 = .ok (.istore 14, 2) := by decide +kernel
theorem dL_law_673 : decode cL_law 673 = .ok (.iload 14, 2) := by decide +kernel
theorem dL_law_675 : decode cL_law 675 = .ok (.iload 11, 2) := by decide +kernel
theorem dL_law_677 : decode cL_law 677 = .ok (.if_icmp .ge 21, 3) := by decide +kernel
theorem dL_law_680 : decode cL_law 680 = .ok (.iload 12, 2) := by decide +kernel
theorem dL_law_682 : decode cL_law 682 = .ok (.aload_n 2, 1) := by decide +kernel
theorem dL_law_683 : decode cL_law 683 = .ok (.aload 13, 2) := by decide +kernel
theorem dL_law_685 : decode cL_law 685 = .ok (.aload_n 3, 1) := by decide +kernel
theorem dL_law_686 : decode cL_law 686 = .ok (.invokestatic 104, 3) := by decide +kernel
theorem dL_law_689 : decode cL_law 689 = .ok (.iadd, 1) := by decide +kernel
theorem dL_law_690 : decode cL_law 690 = .ok (.istore 12, 2) := by decide +kernel
theorem dL_law_692 : decode cL_law 692 = .ok (.iinc 14 1, 3) := by decide +kernel
theorem dL_law_695 : decode cL_law 695 = .ok (.goto (-22), 3) := by decide +kernel
theorem dL_law_698 : decode cL_law 698 = .ok (.aload_n 3, 1) := by decide +kernel
theorem dL_law_699 : decode cL_law 699 = .ok (.bipush 21, 2) := by decide +kernel
theorem dL_law_701 : decode cL_law 701 = .ok (.dup2, 1) := by decide +kernel
theorem dL_law_702 : decode cL_law 702 = .ok (.iaload, 1) := by decide +kernel
theorem dL_law_703 : decode cL_law 703 = .ok (.iload 11, 2) := by decide +kernel
theorem dL_law_705 : decode cL_law 705 = .ok (.iadd, 1) := by decide +kernel
theorem dL_law_706 : decode cL_law 706 = .ok (.iastore, 1) := by decide +kernel
theorem dL_law_707 : decode cL_law 707 = .ok (.aload_n 1, 1) := by decide +kernel
theorem dL_law_708 : decode cL_law 708 = .ok (.iload 11, 2) := by decide +kernel
theorem dL_law_710 : decode cL_law 710 = .ok (.invokevirtual 108, 3) := by decide +kernel
theorem dL_law_713 : decode cL_law 713 = .ok (.iload 12, 2) := by decide +kernel
theorem dL_law_715 : decode cL_law 715 = .ok (.if_icmp .eq 5, 3) := by decide +kernel
theorem dL_law_718 : decode cL_law 718 = .ok (.iconst 0, 1) := by decide +kernel
theorem dL_law_719 : decode cL_law 719 = .ok (.ireturn, 1) := by decide +kernel
theorem dL_law_720 : decode cL_law 720 = .ok (.goto 38, 3) := by decide +kernel
theorem dL_law_723 : decode cL_law 723 = .ok (.aload_n 1, 1) := by decide +kernel
theorem dL_law_724 : decode cL_law 724 = .ok (.aload_n 2, 1) := by decide +kernel
theorem dL_law_725 : decode cL_law 725 = .ok (.aload_n 3, 1) := by decide +kernel
theorem dL_law_726 : decode cL_law 726 = .ok (.iconst 1, 1) := by decide +kernel
theorem dL_law_727 : decode cL_law 727 = .ok (.iload 7, 2) := by decide +kernel
theorem dL_law_729 : decode cL_law 729 = .ok (.bipush 10, 2) := by decide +kernel
theorem dL_law_731 : decode cL_law 731 = .ok (.ishr, 1) := by decide +kernel
theorem dL_law_732 : decode cL_law 732 = .ok (.bipush 60, 2) := by decide +kernel
theorem dL_law_734 : decode cL_law 734 = .ok (.invokestatic 14, 3) := by decide +kernel
theorem dL_law_737 : decode cL_law 737 = .ok (.iadd, 1) := by decide +kernel
theorem dL_law_738 : decode cL_law 738 = .ok (.aload_n 0, 1) := by decide +kernel
theorem dL_law_739 : decode cL_law 739 = .ok (.bipush 21, 2) := by decide +kernel
theorem dL_law_741 : decode cL_law 741 = .ok (.iload 6, 2) := by decide +kernel
theorem dL_law_743 : decode cL_law 743 = .ok (.iadd, 1) := by decide +kernel
theorem dL_law_744 : decode cL_law 744 = .ok (.invokestatic 8, 3) := by decide +kernel
theorem dL_law_747 : decode cL_law 747 = .ok (.ldc 111, 2) := by decide +kernel
theorem dL_law_749 : decode cL_law 749 = .ok (.iand, 1) := by decide +kernel
theorem dL_law_750 : decode cL_law 750 = .ok (.invokestatic 112, 3) := by decide +kernel
theorem dL_law_753 : decode cL_law 753 = .ok (.ifCond .ne 5, 3) := by decide +kernel
theorem dL_law_756 : decode cL_law 756 = .ok (.iconst 0, 1) := by decide +kernel
theorem dL_law_757 : decode cL_law 757 = .ok (.ireturn, 1) := by decide +kernel
theorem dL_law_758 : decode cL_law 758 = .ok (.aload_n 1, 1) := by decide +kernel
theorem dL_law_759 : decode cL_law 759 = .ok (.aload_n 2, 1) := by decide +kernel
theorem dL_law_760 : decode cL_law 760 = .ok (.aload_n 3, 1) := by decide +kernel
theorem dL_law_761 : decode cL_law 761 = .ok (.invokestatic 80, 3) := by decide +kernel
theorem dL_law_764 : decode cL_law 764 = .ok (.ifCond .ne 5, 3) := by decide +kernel
theorem dL_law_767 : decode cL_law 767 = .ok (.iconst 0, 1) := by decide +kernel
theorem dL_law_768 : decode cL_law 768 = .ok (.ireturn, 1) := by decide +kernel
theorem dL_law_769 : decode cL_law 769 = .ok (.iinc 6 1, 3) := by decide +kernel
theorem dL_law_772 : decode cL_law 772 = .ok (.goto (-593), 3) := by decide +kernel
theorem dL_law_775 : decode cL_law 775 = .ok (.aload_n 2, 1) := by decide +kernel
theorem dL_law_776 : decode cL_law 776 = .ok (.iconst 0, 1) := by decide +kernel
theorem dL_law_777 : decode cL_law 777 = .ok (.iaload, 1) := by decide +kernel
theorem dL_law_778 : decode cL_law 778 = .ok (.istore 6, 2) := by decide +kernel
theorem dL_law_780 : decode cL_law 780 = .ok (.aload_n 3, 1) := by decide +kernel
theorem dL_law_781 : decode cL_law 781 = .ok (.bipush 20, 2) := by decide +kernel
theorem dL_law_783 : decode cL_law 783 = .ok (.iaload, 1) := by decide +kernel
theorem dL_law_784 : decode cL_law 784 = .ok (.istore 7, 2) := by decide +kernel
theorem dL_law_786 : decode cL_law 786 = .ok (.aload_n 1, 1) := by decide +kernel
theorem dL_law_787 : decode cL_law 787 = .ok (.iload 6, 2) := by decide +kernel
theorem dL_law_789 : decode cL_law 789 = .ok (.iconst 0, 1) := by decide +kernel
theorem dL_law_790 : decode cL_law 790 = .ok (.invokevirtual 48, 3) := by decide +kernel
theorem dL_law_793 : decode cL_law 793 = .ok (.bipush (-101), 2) := by decide +kernel
theorem dL_law_795 : decode cL_law 795 = .ok (.if_icmp .ne 261, 3) := by decide +kernel
theorem dL_law_798 : decode cL_law 798 = .ok (.aload_n 1, 1) := by decide +kernel
theorem dL_law_799 : decode cL_law 799 = .ok (.iconst 0, 1) := by decide +kernel
theorem dL_law_800 : decode cL_law 800 = .ok (.bipush 6, 2) := by decide +kernel
theorem dL_law_802 : decode cL_law 802 = .ok (.invokevirtual 48, 3) := by decide +kernel
theorem dL_law_805 : decode cL_law 805 = .ok (.bipush (-102), 2) := by decide +kernel
theorem dL_law_807 : decode cL_law 807 = .ok (.if_icmp .ne 249, 3) := by decide +kernel
theorem dL_law_810 : decode cL_law 810 = .ok (.aload_n 1, 1) := by decide +kernel
theorem dL_law_811 : decode cL_law 811 = .ok (.bipush 7, 2) := by decide +kernel
theorem dL_law_813 : decode cL_law 813 = .ok (.iconst 0, 1) := by decide +kernel
theorem dL_law_814 : decode cL_law 814 = .ok (.invokevirtual 51, 3) := by decide +kernel
theorem dL_law_817 : decode cL_law 817 = .ok (.bipush (-101), 2) := by decide +kernel
theorem dL_law_819 : decode cL_law 819 = .ok (.if_icmp .ne 237, 3) := by decide +kernel
theorem dL_law_822 : decode cL_law 822 = .ok (.aload_n 1, 1) := by decide +kernel
theorem dL_law_823 : decode cL_law 823 = .ok (.iconst 0, 1) := by decide +kernel
theorem dL_law_824 : decode cL_law 824 = .ok (.iconst 4, 1) := by decide +kernel
theorem dL_law_825 : decode cL_law 825 = .ok (.invokevirtual 51, 3) := by decide +kernel
theorem dL_law_828 : decode cL_law 828 = .ok (.bipush (-102), 2) := by decide +kernel
theorem dL_law_830 : decode cL_law 830 = .ok (.if_icmp .ne 226, 3) := by decide +kernel
theorem dL_law_833 : decode cL_law 833 = .ok (.aload_n 1, 1) := by decide +kernel
theorem dL_law_834 : decode cL_law 834 = .ok (.iload 6, 2) := by decide +kernel
theorem dL_law_836 : decode cL_law 836 = .ok (.iconst 1, 1) := by decide +kernel
theorem dL_law_837 : decode cL_law 837 = .ok (.invokevirtual 87, 3) := by decide +kernel
theorem dL_law_840 : decode cL_law 840 = .ok (.bipush (-101), 2) := by decide +kernel
theorem dL_law_842 : decode cL_law 842 = .ok (.if_icmp .ne 214, 3) := by decide +kernel
theorem dL_law_845 : decode cL_law 845 = .ok (.aload_n 1, 1) := by decide +kernel
theorem dL_law_846 : decode cL_law 846 = .ok (.iconst 5, 1) := by decide +kernel
theorem dL_law_847 : decode cL_law 847 = .ok (.iconst 0, 1) := by decide +kernel
theorem dL_law_848 : decode cL_law 848 = .ok (.invokevirtual 24, 3) := by decide +kernel
theorem dL_law_851 : decode cL_law 851 = .ok (.bipush (-102), 2) := by decide +kernel
theorem dL_law_853 : decode cL_law 853 = .ok (.if_icmp .ne 203, 3) := by decide +kernel
theorem dL_law_856 : decode cL_law 856 = .ok (.aload_n 1, 1) := by decide +kernel
theorem dL_law_857 : decode cL_law 857 = .ok (.iconst 0, 1) := by decide +kernel
theorem dL_law_858 : decode cL_law 858 = .ok (.bipush 7, 2) := by decide +kernel
theorem dL_law_860 : decode cL_law 860 = .ok (.invokevirtual 24, 3) := by decide +kernel
theorem dL_law_863 : decode cL_law 863 = .ok (.bipush (-101), 2) := by decide +kernel
theorem dL_law_865 : decode cL_law 865 = .ok (.if_icmp .ne 191, 3) := by decide +kernel
theorem dL_law_868 : decode cL_law 868 = .ok (.aload_n 1, 1) := by decide +kernel
theorem dL_law_869 : decode cL_law 869 = .ok (.iload 7, 2) := by decide +kernel
theorem dL_law_871 : decode cL_law 871 = .ok (.iconst 0, 1) := by decide +kernel
theorem dL_law_872 : decode cL_law 872 = .ok (.invokevirtual 54, 3) := by decide +kernel
theorem dL_law_875 : decode cL_law 875 = .ok (.bipush (-101), 2) := by decide +kernel
theorem dL_law_877 : decode cL_law 877 = .ok (.if_icmp .ne 179, 3) := by decide +kernel
theorem dL_law_880 : decode cL_law 880 = .ok (.aload_n 1, 1) := by decide +kernel
theorem dL_law_881 : decode cL_law 881 = .ok (.iload 7, 2) := by decide +kernel
theorem dL_law_883 : decode cL_law 883 = .ok (.iconst 0, 1) := by decide +kernel
theorem dL_law_884 : decode cL_law 884 = .ok (.invokevirtual 84, 3) := by decide +kernel
theorem dL_law_887 : decode cL_law 887 = .ok (.bipush (-101), 2) := by decide +kernel
theorem dL_law_889 : decode cL_law 889 = .ok (.if_icmp .ne 167, 3) := by decide +kernel
theorem dL_law_892 : decode cL_law 892 = .ok (.aload_n 1, 1) := by decide +kernel
theorem dL_law_893 : decode cL_law 893 = .ok (.iload 7, 2) := by decide +kernel
theorem dL_law_895 : decode cL_law 895 = .ok (.iconst 0, 1) := by decide +kernel
theorem dL_law_896 : decode cL_law 896 = .ok (.invokevirtual 101, 3) := by decide +kernel
theorem dL_law_899 : decode cL_law 899 = .ok (.bipush (-101), 2) := by decide +kernel
theorem dL_law_901 : decode cL_law 901 = .ok (.if_icmp .ne 155, 3) := by decide +kernel
theorem dL_law_904 : decode cL_law 904 = .ok (.iload 7, 2) := by decide +kernel
theorem dL_law_906 : decode cL_law 906 = .ok (.ifCond .eq 37, 3) := by decide +kernel
theorem dL_law_909 : decode cL_law 909 = .ok (.aload_n 1, 1) := by decide +kernel
theorem dL_law_910 : decode cL_law 910 = .ok (.iconst 0, 1) := by decide +kernel
theorem dL_law_911 : decode cL_law 911 = .ok (.iload 6, 2) := by decide +kernel
theorem dL_law_913 : decode cL_law 913 = .ok (.invokevirtual 101, 3) := by decide +kernel
theorem dL_law_916 : decode cL_law 916 = .ok (.bipush (-101), 2) := by decide +kernel
theorem dL_law_918 : decode cL_law 918 = .ok (.if_icmp .ne 138, 3) := by decide +kernel
theorem dL_law_921 : decode cL_law 921 = .ok (.aload_n 1, 1) := by decide +kernel
theorem dL_law_922 : decode cL_law 922 = .ok (.iconst 0, 1) := by decide +kernel
theorem dL_law_923 : decode cL_law 923 = .ok (.iconst 4, 1) := by decide +kernel
theorem dL_law_924 : decode cL_law 924 = .ok (.invokevirtual 54, 3) := by decide +kernel
theorem dL_law_927 : decode cL_law 927 = .ok (.bipush (-102), 2) := by decide +kernel
theorem dL_law_929 : decode cL_law 929 = .ok (.if_icmp .ne 127, 3) := by decide +kernel
theorem dL_law_932 : decode cL_law 932 = .ok (.aload_n 1, 1) := by decide +kernel
theorem dL_law_933 : decode cL_law 933 = .ok (.iconst 0, 1) := by decide +kernel
theorem dL_law_934 : decode cL_law 934 = .ok (.iconst 5, 1) := by decide +kernel
theorem dL_law_935 : decode cL_law 935 = .ok (.invokevirtual 84, 3) := by decide +kernel
theorem dL_law_938 : decode cL_law 938 = .ok (.bipush (-102), 2) := by decide +kernel
theorem dL_law_940 : decode cL_law 940 = .ok (.if_icmp .ne 116, 3) := by decide +kernel
theorem dL_law_943 : decode cL_law 943 = .ok (.aload_n 1, 1) := by decide +kernel
theorem dL_law_944 : decode cL_law 944 = .ok (.iconst 0, 1) := by decide +kernel
theorem dL_law_945 : decode cL_law 945 = .ok (.invokevirtual 108, 3) := by decide +kernel
theorem dL_law_948 : decode cL_law 948 = .ok (.bipush (-102), 2) := by decide +kernel
theorem dL_law_950 : decode cL_law 950 = .ok (.if_icmp .ne 106, 3) := by decide +kernel
theorem dL_law_953 : decode cL_law 953 = .ok (.aload_n 1, 1) := by decide +kernel
theorem dL_law_954 : decode cL_law 954 = .ok (.bipush 61, 2) := by decide +kernel
theorem dL_law_956 : decode cL_law 956 = .ok (.invokevirtual 108, 3) := by decide +kernel
theorem dL_law_959 : decode cL_law 959 = .ok (.bipush (-102), 2) := by decide +kernel
theorem dL_law_961 : decode cL_law 961 = .ok (.if_icmp .ne 95, 3) := by decide +kernel
theorem dL_law_964 : decode cL_law 964 = .ok (.aload_n 1, 1) := by decide +kernel
theorem dL_law_965 : decode cL_law 965 = .ok (.bipush 7, 2) := by decide +kernel
theorem dL_law_967 : decode cL_law 967 = .ok (.iconst 0, 1) := by decide +kernel
theorem dL_law_968 : decode cL_law 968 = .ok (.invokevirtual 116, 3) := by decide +kernel
theorem dL_law_971 : decode cL_law 971 = .ok (.bipush (-101), 2) := by decide +kernel
theorem dL_law_973 : decode cL_law 973 = .ok (.if_icmp .ne 83, 3) := by decide +kernel
theorem dL_law_976 : decode cL_law 976 = .ok (.aload_n 1, 1) := by decide +kernel
theorem dL_law_977 : decode cL_law 977 = .ok (.iconst 0, 1) := by decide +kernel
theorem dL_law_978 : decode cL_law 978 = .ok (.iconst (-1), 1) := by decide +kernel
theorem dL_law_979 : decode cL_law 979 = .ok (.invokevirtual 116, 3) := by decide +kernel
theorem dL_law_982 : decode cL_law 982 = .ok (.bipush (-101), 2) := by decide +kernel
theorem dL_law_984 : decode cL_law 984 = .ok (.if_icmp .ne 72, 3) := by decide +kernel
theorem dL_law_987 : decode cL_law 987 = .ok (.aload_n 1, 1) := by decide +kernel
theorem dL_law_988 : decode cL_law 988 = .ok (.bipush 7, 2) := by decide +kernel
theorem dL_law_990 : decode cL_law 990 = .ok (.invokevirtual 119, 3) := by decide +kernel
theorem dL_law_993 : decode cL_law 993 = .ok (.bipush (-101), 2) := by decide +kernel
theorem dL_law_995 : decode cL_law 995 = .ok (.if_icmp .ne 61, 3) := by decide +kernel
theorem dL_law_998 : decode cL_law 998 = .ok (.aload_n 1, 1) := by decide +kernel
theorem dL_law_999 : decode cL_law 999 = .ok (.iconst 0, 1) := by decide +kernel
theorem dL_law_1000 : decode cL_law 1000 = .ok (.iconst 0, 1) := by decide +kernel
theorem dL_law_1001 : decode cL_law 1001 = .ok (.iconst 0, 1) := by decide +kernel
theorem dL_law_1002 : decode cL_law 1002 = .ok (.invokevirtual 122, 3) := by decide +kernel
theorem dL_law_1005 : decode cL_law 1005 = .ok (.bipush (-102), 2) := by decide +kernel
theorem dL_law_1007 : decode cL_law 1007 = .ok (.if_icmp .ne 49, 3) := by decide +kernel
theorem dL_law_1010 : decode cL_law 1010 = .ok (.aload_n 1, 1) := by decide +kernel
theorem dL_law_1011 : decode cL_law 1011 = .ok (.iconst 1, 1) := by decide +kernel
theorem dL_law_1012 : decode cL_law 1012 = .ok (.iconst (-1), 1) := by decide +kernel
theorem dL_law_1013 : decode cL_law 1013 = .ok (.iconst 0, 1) := by decide +kernel
theorem dL_law_1014 : decode cL_law 1014 = .ok (.invokevirtual 122, 3) := by decide +kernel
theorem dL_law_1017 : decode cL_law 1017 = .ok (.bipush (-102), 2) := by decide +kernel
theorem dL_law_1019 : decode cL_law 1019 = .ok (.if_icmp .ne 37, 3) := by decide +kernel
theorem dL_law_1022 : decode cL_law 1022 = .ok (.aload_n 1, 1) := by decide +kernel
theorem dL_law_1023 : decode cL_law 1023 = .ok (.iconst 1, 1) := by decide +kernel
theorem dL_law_1024 : decode cL_law 1024 = .ok (.iconst 0, 1) := by decide +kernel
theorem dL_law_1025 : decode cL_law 1025 = .ok (.iconst 4, 1) := by decide +kernel
theorem dL_law_1026 : decode cL_law 1026 = .ok (.invokevirtual 122, 3) := by decide +kernel
theorem dL_law_1029 : decode cL_law 1029 = .ok (.bipush (-102), 2) := by decide +kernel
theorem dL_law_1031 : decode cL_law 1031 = .ok (.if_icmp .ne 25, 3) := by decide +kernel
theorem dL_law_1034 : decode cL_law 1034 = .ok (.iload 7, 2) := by decide +kernel
theorem dL_law_1036 : decode cL_law 1036 = .ok (.bipush 6, 2) := by decide +kernel
theorem dL_law_1038 : decode cL_law 1038 = .ok (.if_icmp .lt 14, 3) := by decide +kernel
theorem dL_law_1041 : decode cL_law 1041 = .ok (.aload_n 1, 1) := by decide +kernel
theorem dL_law_1042 : decode cL_law 1042 = .ok (.iconst 0, 1) := by decide +kernel
theorem dL_law_1043 : decode cL_law 1043 = .ok (.iconst 0, 1) := by decide +kernel
theorem dL_law_1044 : decode cL_law 1044 = .ok (.invokevirtual 24, 3) := by decide +kernel
theorem dL_law_1047 : decode cL_law 1047 = .ok (.bipush (-104), 2) := by decide +kernel
theorem dL_law_1049 : decode cL_law 1049 = .ok (.if_icmp .ne 7, 3) := by decide +kernel
theorem dL_law_1052 : decode cL_law 1052 = .ok (.iconst 1, 1) := by decide +kernel
theorem dL_law_1053 : decode cL_law 1053 = .ok (.goto 4, 3) := by decide +kernel
theorem dL_law_1056 : decode cL_law 1056 = .ok (.iconst 0, 1) := by decide +kernel
theorem dL_law_1057 : decode cL_law 1057 = .ok (.ireturn, 1) := by decide +kernel
set_option maxRecDepth 20000 in
theorem ggL_smoke_L_air : GoodIn wsL_smoke wsL_air := goodIn_r _ [5, 1, 6, 7, 4, 8, 9, 10, 11, 12, 13, 14] (by decide +kernel) (by decide +kernel)
set_option maxRecDepth 20000 in
theorem gL_smoke_L_air : GoodIn wsL_smoke (va_wsS RL 44 yL_air wsL_air) := goodIn_app (goodIn_of _ (by decide +kernel)) ggL_smoke_L_air
set_option maxRecDepth 20000 in
theorem ggL_smoke_L_other : GoodIn wsL_smoke wsL_other := goodIn_r _ [17] (by decide +kernel) (by decide +kernel)
set_option maxRecDepth 20000 in
theorem gL_smoke_L_other : GoodIn wsL_smoke (va_wsS RL 97 yL_other wsL_other) := goodIn_app (goodIn_of _ (by decide +kernel)) ggL_smoke_L_other
set_option maxRecDepth 20000 in
theorem ggL_smoke_X10_smelt : GoodIn wsL_smoke wsX10_smelt := goodIn_r _ [22, 23, 24, 25, 26, 27, 28, 29, 30, 31, 32, 21, 33, 34, 35, 36, 37, 38, 39, 40, 41, 42, 43, 44, 45, 73, 74, 75, 76, 77, 78, 79, 80, 81, 82, 83, 84, 85, 86, 87, 88, 89, 90, 91, 92, 93, 94, 95, 96] (by decide +kernel) (by decide +kernel)
set_option maxRecDepth 20000 in
theorem gL_smoke_X10_smelt : GoodIn wsL_smoke (wsV RL 116 RX10 yX10_smelt wsX10_smelt) := goodIn_app (goodIn_of _ (by decide +kernel)) ggL_smoke_X10_smelt
set_option maxRecDepth 20000 in
theorem ggL_smoke_X10_wayOut : GoodIn wsL_smoke wsX10_wayOut := goodIn_r _ [49, 23, 50, 25, 26, 27, 28, 29, 30, 31, 32, 21, 33, 51, 52, 53, 54, 55, 56, 57, 58, 59, 60, 61, 62, 63, 64, 65, 41, 42, 43, 44, 45, 66, 67, 68, 69, 70, 71, 72, 73, 74, 75, 76, 77, 78, 79, 80, 81, 82, 83, 84, 85, 86, 87, 88, 89, 90, 91, 92, 93, 94, 97, 98, 99, 100, 96] (by decide +kernel) (by decide +kernel)
set_option maxRecDepth 20000 in
theorem gL_smoke_X10_wayOut : GoodIn wsL_smoke (wsV RL 119 RX10 yX10_wayOut wsX10_wayOut) := goodIn_app (goodIn_of _ (by decide +kernel)) ggL_smoke_X10_wayOut
theorem dL_smoke_0 : decode cL_smoke 0 = .ok (.aload_n 1, 1) := by decide +kernel
theorem dL_smoke_1 : decode cL_smoke 1 = .ok (.invokestatic 44, 3) := by decide +kernel
theorem dL_smoke_4 : decode cL_smoke 4 = .ok (.astore_n 3, 1) := by decide +kernel
theorem dL_smoke_5 : decode cL_smoke 5 = .ok (.bipush 7, 2) := by decide +kernel
theorem dL_smoke_7 : decode cL_smoke 7 = .ok (.newarray .int, 2) := by decide +kernel
theorem dL_smoke_9 : decode cL_smoke 9 = .ok (.astore 4, 2) := by decide +kernel
theorem dL_smoke_11 : decode cL_smoke 11 = .ok (.iconst 0, 1) := by decide +kernel
theorem dL_smoke_12 : decode cL_smoke 12 = .ok (.istore 5, 2) := by decide +kernel
theorem dL_smoke_14 : decode cL_smoke 14 = .ok (.iload 5, 2) := by decide +kernel
theorem dL_smoke_16 : decode cL_smoke 16 = .ok (.bipush 7, 2) := by decide +kernel
theorem dL_smoke_18 : decode cL_smoke 18 = .ok (.if_icmp .ge 25, 3) := by decide +kernel
theorem dL_smoke_21 : decode cL_smoke 21 = .ok (.aload 4, 2) := by decide +kernel
theorem dL_smoke_23 : decode cL_smoke 23 = .ok (.iload 5, 2) := by decide +kernel
theorem dL_smoke_25 : decode cL_smoke 25 = .ok (.iload 5, 2) := by decide +kernel
theorem dL_smoke_27 : decode cL_smoke 27 = .ok (.iload_n 2, 1) := by decide +kernel
theorem dL_smoke_28 : decode cL_smoke 28 = .ok (.if_icmp .ne 7, 3) := by decide +kernel
theorem dL_smoke_31 : decode cL_smoke 31 = .ok (.iconst 0, 1) := by decide +kernel
theorem dL_smoke_32 : decode cL_smoke 32 = .ok (.goto 4, 3) := by decide +kernel
theorem dL_smoke_35 : decode cL_smoke 35 = .ok (.iconst (-1), 1) := by decide +kernel
theorem dL_smoke_36 : decode cL_smoke 36 = .ok (.iastore, 1) := by decide +kernel
theorem dL_smoke_37 : decode cL_smoke 37 = .ok (.iinc 5 1, 3) := by decide +kernel
theorem dL_smoke_40 : decode cL_smoke 40 = .ok (.goto (-26), 3) := by decide +kernel
theorem dL_smoke_43 : decode cL_smoke 43 = .ok (.iconst 1, 1) := by decide +kernel
theorem dL_smoke_44 : decode cL_smoke 44 = .ok (.istore 5, 2) := by decide +kernel
theorem dL_smoke_46 : decode cL_smoke 46 = .ok (.iload 5, 2) := by decide +kernel
theorem dL_smoke_48 : decode cL_smoke 48 = .ok (.bipush 60, 2) := by decide +kernel
theorem dL_smoke_50 : decode cL_smoke 50 = .ok (.if_icmp .ge 102, 3) := by decide +kernel
theorem dL_smoke_53 : decode cL_smoke 53 = .ok (.iconst 0, 1) := by decide +kernel
theorem dL_smoke_54 : decode cL_smoke 54 = .ok (.istore 6, 2) := by decide +kernel
theorem dL_smoke_56 : decode cL_smoke 56 = .ok (.iload 6, 2) := by decide +kernel
theorem dL_smoke_58 : decode cL_smoke 58 = .ok (.aload_n 1, 1) := by decide +kernel
theorem dL_smoke_59 : decode cL_smoke 59 = .ok (.iconst 0, 1) := by decide +kernel
theorem dL_smoke_60 : decode cL_smoke 60 = .ok (.iaload, 1) := by decide +kernel
theorem dL_smoke_61 : decode cL_smoke 61 = .ok (.if_icmp .ge 85, 3) := by decide +kernel
theorem dL_smoke_64 : decode cL_smoke 64 = .ok (.aload_n 3, 1) := by decide +kernel
theorem dL_smoke_65 : decode cL_smoke 65 = .ok (.iload 6, 2) := by decide +kernel
theorem dL_smoke_67 : decode cL_smoke 67 = .ok (.iaload, 1) := by decide +kernel
theorem dL_smoke_68 : decode cL_smoke 68 = .ok (.ifCond .lt 72, 3) := by decide +kernel
theorem dL_smoke_71 : decode cL_smoke 71 = .ok (.aload 4, 2) := by decide +kernel
theorem dL_smoke_73 : decode cL_smoke 73 = .ok (.aload_n 3, 1) := by decide +kernel
theorem dL_smoke_74 : decode cL_smoke 74 = .ok (.iload 6, 2) := by decide +kernel
theorem dL_smoke_76 : decode cL_smoke 76 = .ok (.iaload, 1) := by decide +kernel
theorem dL_smoke_77 : decode cL_smoke 77 = .ok (.iaload, 1) := by decide +kernel
theorem dL_smoke_78 : decode cL_smoke 78 = .ok (.ifCond .lt 18, 3) := by decide +kernel
theorem dL_smoke_81 : decode cL_smoke 81 = .ok (.aload 4, 2) := by decide +kernel
theorem dL_smoke_83 : decode cL_smoke 83 = .ok (.aload_n 3, 1) := by decide +kernel
theorem dL_smoke_84 : decode cL_smoke 84 = .ok (.iload 6, 2) := by decide +kernel
theorem dL_smoke_86 : decode cL_smoke 86 = .ok (.iaload, 1) := by decide +kernel
theorem dL_smoke_87 : decode cL_smoke 87 = .ok (.iaload, 1) := by decide +kernel
theorem dL_smoke_88 : decode cL_smoke 88 = .ok (.iload 5, 2) := by decide +kernel
theorem dL_smoke_90 : decode cL_smoke 90 = .ok (.if_icmp .ge 6, 3) := by decide +kernel
theorem dL_smoke_93 : decode cL_smoke 93 = .ok (.goto 47, 3) := by decide +kernel
theorem dL_smoke_96 : decode cL_smoke 96 = .ok (.aload 4, 2) := by decide +kernel
theorem dL_smoke_98 : decode cL_smoke 98 = .ok (.aload_n 1, 1) := by decide +kernel
theorem dL_smoke_99 : decode cL_smoke 99 = .ok (.iload 6, 2) := by decide +kernel
theorem dL_smoke_101 : decode cL_smoke 101 = .ok (.aload_n 3, 1) := by decide +kernel
theorem dL_smoke_102 : decode cL_smoke 102 = .ok (.iload 6, 2) := by decide +kernel
theorem dL_smoke_104 : decode cL_smoke 104 = .ok (.iaload, 1) := by decide +kernel
theorem dL_smoke_105 : decode cL_smoke 105 = .ok (.invokestatic 97, 3) := by decide +kernel
theorem dL_smoke_108 : decode cL_smoke 108 = .ok (.iaload, 1) := by decide +kernel
theorem dL_smoke_109 : decode cL_smoke 109 = .ok (.istore 7, 2) := by decide +kernel
theorem dL_smoke_111 : decode cL_smoke 111 = .ok (.iload 7, 2) := by decide +kernel
theorem dL_smoke_113 : decode cL_smoke 113 = .ok (.ifCond .lt 27, 3) := by decide +kernel
theorem dL_smoke_116 : decode cL_smoke 116 = .ok (.iload 7, 2) := by decide +kernel
theorem dL_smoke_118 : decode cL_smoke 118 = .ok (.aload_n 1, 1) := by decide +kernel
theorem dL_smoke_119 : decode cL_smoke 119 = .ok (.bipush 21, 2) := by decide +kernel
theorem dL_smoke_121 : decode cL_smoke 121 = .ok (.iload 6, 2) := by decide +kernel
theorem dL_smoke_123 : decode cL_smoke 123 = .ok (.iadd, 1) := by decide +kernel
theorem dL_smoke_124 : decode cL_smoke 124 = .ok (.iaload, 1) := by decide +kernel
theorem dL_smoke_125 : decode cL_smoke 125 = .ok (.iadd, 1) := by decide +kernel
theorem dL_smoke_126 : decode cL_smoke 126 = .ok (.iload 5, 2) := by decide +kernel
theorem dL_smoke_128 : decode cL_smoke 128 = .ok (.if_icmp .ne 12, 3) := by decide +kernel
theorem dL_smoke_131 : decode cL_smoke 131 = .ok (.aload 4, 2) := by decide +kernel
theorem dL_smoke_133 : decode cL_smoke 133 = .ok (.aload_n 3, 1) := by decide +kernel
theorem dL_smoke_134 : decode cL_smoke 134 = .ok (.iload 6, 2) := by decide +kernel
theorem dL_smoke_136 : decode cL_smoke 136 = .ok (.iaload, 1) := by decide +kernel
theorem dL_smoke_137 : decode cL_smoke 137 = .ok (.iload 5, 2) := by decide +kernel
theorem dL_smoke_139 : decode cL_smoke 139 = .ok (.iastore, 1) := by decide +kernel
theorem dL_smoke_140 : decode cL_smoke 140 = .ok (.iinc 6 1, 3) := by decide +kernel
theorem dL_smoke_143 : decode cL_smoke 143 = .ok (.goto (-87), 3) := by decide +kernel
theorem dL_smoke_146 : decode cL_smoke 146 = .ok (.iinc 5 1, 3) := by decide +kernel
theorem dL_smoke_149 : decode cL_smoke 149 = .ok (.goto (-103), 3) := by decide +kernel
theorem dL_smoke_152 : decode cL_smoke 152 = .ok (.iconst 0, 1) := by decide +kernel
theorem dL_smoke_153 : decode cL_smoke 153 = .ok (.istore 5, 2) := by decide +kernel
theorem dL_smoke_155 : decode cL_smoke 155 = .ok (.iload 5, 2) := by decide +kernel
theorem dL_smoke_157 : decode cL_smoke 157 = .ok (.bipush 7, 2) := by decide +kernel
theorem dL_smoke_159 : decode cL_smoke 159 = .ok (.if_icmp .ge 120, 3) := by decide +kernel
theorem dL_smoke_162 : decode cL_smoke 162 = .ok (.aload_n 0, 1) := by decide +kernel
theorem dL_smoke_163 : decode cL_smoke 163 = .ok (.iload_n 2, 1) := by decide +kernel
theorem dL_smoke_164 : decode cL_smoke 164 = .ok (.iload 5, 2) := by decide +kernel
theorem dL_smoke_166 : decode cL_smoke 166 = .ok (.invokevirtual 116, 3) := by decide +kernel
theorem dL_smoke_169 : decode cL_smoke 169 = .ok (.aload 4, 2) := by decide +kernel
theorem dL_smoke_171 : decode cL_smoke 171 = .ok (.iload 5, 2) := by decide +kernel
theorem dL_smoke_173 : decode cL_smoke 173 = .ok (.iaload, 1) := by decide +kernel
theorem dL_smoke_174 : decode cL_smoke 174 = .ok (.if_icmp .eq 5, 3) := by decide +kernel
theorem dL_smoke_177 : decode cL_smoke 177 = .ok (.iconst 0, 1) := by decide +kernel
theorem dL_smoke_178 : decode cL_smoke 178 = .ok (.ireturn, 1) := by decide +kernel
theorem dL_smoke_179 : decode cL_smoke 179 = .ok (.iload 5, 2) := by decide +kernel
theorem dL_smoke_181 : decode cL_smoke 181 = .ok (.istore 6, 2) := by decide +kernel
theorem dL_smoke_183 : decode cL_smoke 183 = .ok (.iconst 0, 1) := by decide +kernel
theorem dL_smoke_184 : decode cL_smoke 184 = .ok (.istore 7, 2) := by decide +kernel
theorem dL_smoke_186 : decode cL_smoke 186 = .ok (.iload 6, 2) := by decide +kernel
theorem dL_smoke_188 : decode cL_smoke 188 = .ok (.ifCond .lt 63, 3) := by decide +kernel
theorem dL_smoke_191 : decode cL_smoke 191 = .ok (.aload_n 1, 1) := by decide +kernel
theorem dL_smoke_192 : decode cL_smoke 192 = .ok (.bipush 52, 2) := by decide +kernel
theorem dL_smoke_194 : decode cL_smoke 194 = .ok (.iload 6, 2) := by decide +kernel
theorem dL_smoke_196 : decode cL_smoke 196 = .ok (.iadd, 1) := by decide +kernel
theorem dL_smoke_197 : decode cL_smoke 197 = .ok (.iaload, 1) := by decide +kernel
theorem dL_smoke_198 : decode cL_smoke 198 = .ok (.ifCond .ne 53, 3) := by decide +kernel
theorem dL_smoke_201 : decode cL_smoke 201 = .ok (.iconst (-1), 1) := by decide +kernel
theorem dL_smoke_202 : decode cL_smoke 202 = .ok (.istore 8, 2) := by decide +kernel
theorem dL_smoke_204 : decode cL_smoke 204 = .ok (.aload_n 1, 1) := by decide +kernel
theorem dL_smoke_205 : decode cL_smoke 205 = .ok (.iconst 0, 1) := by decide +kernel
theorem dL_smoke_206 : decode cL_smoke 206 = .ok (.iaload, 1) := by decide +kernel
theorem dL_smoke_207 : decode cL_smoke 207 = .ok (.iconst 1, 1) := by decide +kernel
theorem dL_smoke_208 : decode cL_smoke 208 = .ok (.isub, 1) := by decide +kernel
theorem dL_smoke_209 : decode cL_smoke 209 = .ok (.istore 9, 2) := by decide +kernel
theorem dL_smoke_211 : decode cL_smoke 211 = .ok (.iload 9, 2) := by decide +kernel
theorem dL_smoke_213 : decode cL_smoke 213 = .ok (.ifCond .lt 28, 3) := by decide +kernel
theorem dL_smoke_216 : decode cL_smoke 216 = .ok (.aload_n 3, 1) := by decide +kernel
theorem dL_smoke_217 : decode cL_smoke 217 = .ok (.iload 9, 2) := by decide +kernel
theorem dL_smoke_219 : decode cL_smoke 219 = .ok (.iaload, 1) := by decide +kernel
theorem dL_smoke_220 : decode cL_smoke 220 = .ok (.iload 6, 2) := by decide +kernel
theorem dL_smoke_222 : decode cL_smoke 222 = .ok (.if_icmp .ne 13, 3) := by decide +kernel
theorem dL_smoke_225 : decode cL_smoke 225 = .ok (.aload_n 1, 1) := by decide +kernel
theorem dL_smoke_226 : decode cL_smoke 226 = .ok (.iload 9, 2) := by decide +kernel
theorem dL_smoke_228 : decode cL_smoke 228 = .ok (.iload 6, 2) := by decide +kernel
theorem dL_smoke_230 : decode cL_smoke 230 = .ok (.invokestatic 97, 3) := by decide +kernel
theorem dL_smoke_233 : decode cL_smoke 233 = .ok (.istore 8, 2) := by decide +kernel
theorem dL_smoke_235 : decode cL_smoke 235 = .ok (.iinc 9 (-1), 3) := by decide +kernel
theorem dL_smoke_238 : decode cL_smoke 238 = .ok (.goto (-27), 3) := by decide +kernel
theorem dL_smoke_241 : decode cL_smoke 241 = .ok (.iload 8, 2) := by decide +kernel
theorem dL_smoke_243 : decode cL_smoke 243 = .ok (.istore 6, 2) := by decide +kernel
theorem dL_smoke_245 : decode cL_smoke 245 = .ok (.iinc 7 1, 3) := by decide +kernel
theorem dL_smoke_248 : decode cL_smoke 248 = .ok (.goto (-62), 3) := by decide +kernel
theorem dL_smoke_251 : decode cL_smoke 251 = .ok (.aload_n 0, 1) := by decide +kernel
theorem dL_smoke_252 : decode cL_smoke 252 = .ok (.iload 5, 2) := by decide +kernel
theorem dL_smoke_254 : decode cL_smoke 254 = .ok (.invokevirtual 119, 3) := by decide +kernel
theorem dL_smoke_257 : decode cL_smoke 257 = .ok (.iload 6, 2) := by decide +kernel
theorem dL_smoke_259 : decode cL_smoke 259 = .ok (.ifCond .ge 7, 3) := by decide +kernel
theorem dL_smoke_262 : decode cL_smoke 262 = .ok (.iconst (-1), 1) := by decide +kernel
theorem dL_smoke_263 : decode cL_smoke 263 = .ok (.goto 5, 3) := by decide +kernel
theorem dL_smoke_266 : decode cL_smoke 266 = .ok (.iload 7, 2) := by decide +kernel
theorem dL_smoke_268 : decode cL_smoke 268 = .ok (.if_icmp .eq 5, 3) := by decide +kernel
theorem dL_smoke_271 : decode cL_smoke 271 = .ok (.iconst 0, 1) := by decide +kernel
theorem dL_smoke_272 : decode cL_smoke 272 = .ok (.ireturn, 1) := by decide +kernel
theorem dL_smoke_273 : decode cL_smoke 273 = .ok (.iinc 5 1, 3) := by decide +kernel
theorem dL_smoke_276 : decode cL_smoke 276 = .ok (.goto (-121), 3) := by decide +kernel
theorem dL_smoke_279 : decode cL_smoke 279 = .ok (.iconst 1, 1) := by decide +kernel
theorem dL_smoke_280 : decode cL_smoke 280 = .ok (.ireturn, 1) := by decide +kernel
set_option maxRecDepth 20000 in
theorem ggL_walks_L_air : GoodIn wsL_walks wsL_air := goodIn_r _ [9, 1, 10, 11, 8, 12, 13, 14, 15, 16, 17, 18] (by decide +kernel) (by decide +kernel)
set_option maxRecDepth 20000 in
theorem gL_walks_L_air : GoodIn wsL_walks (va_wsS RL 44 yL_air wsL_air) := goodIn_app (goodIn_of _ (by decide +kernel)) ggL_walks_L_air
set_option maxRecDepth 20000 in
theorem ggL_walks_L_other : GoodIn wsL_walks wsL_other := goodIn_r _ [21] (by decide +kernel) (by decide +kernel)
set_option maxRecDepth 20000 in
theorem gL_walks_L_other : GoodIn wsL_walks (va_wsS RL 97 yL_other wsL_other) := goodIn_app (goodIn_of _ (by decide +kernel)) ggL_walks_L_other
set_option maxRecDepth 20000 in
theorem ggL_walks_L_minute : GoodIn wsL_walks wsL_minute := goodIn_r _ [24, 25, 26, 8, 27, 28, 29, 30] (by decide +kernel) (by decide +kernel)
set_option maxRecDepth 20000 in
theorem gL_walks_L_minute : GoodIn wsL_walks (va_wsS RL 104 yL_minute wsL_minute) := goodIn_app (goodIn_of _ (by decide +kernel)) ggL_walks_L_minute
set_option maxRecDepth 20000 in
theorem ggL_walks_X10_walks : GoodIn wsL_walks wsX10_walks := goodIn_r _ [35, 36, 37, 38, 39, 40, 41, 42, 43, 44, 45, 46, 47, 48, 49, 50, 51, 52, 53, 54, 55, 56, 57, 58, 59, 60, 61, 62, 63, 64, 65, 66, 67, 68, 69, 70, 71, 72, 73, 74, 75, 76, 34, 77, 78, 79, 80, 81, 82, 83, 84, 85, 86, 87, 88, 89, 90, 91, 92, 93, 94, 95, 96, 97, 98, 99, 100, 101, 102, 103, 104, 105, 106, 107, 108, 109, 110, 111, 112, 113, 114, 115, 116, 117, 118, 119, 120, 121, 122, 123, 124, 125, 126, 127, 128, 129, 130, 131, 132, 133, 134, 135, 136, 137, 138, 139, 140, 141, 142, 143, 144, 145, 146, 147, 148, 149, 150, 151, 152, 153, 154, 155, 156, 157, 158, 159, 160, 161, 162, 163, 164, 165, 166, 167, 168, 169, 170, 171, 172, 173, 174, 175, 176, 177, 178, 179, 180, 181, 182, 183, 184, 185, 186, 187, 188, 189] (by decide +kernel) (by decide +kernel)
set_option maxRecDepth 20000 in
theorem gL_walks_X10_walks : GoodIn wsL_walks (wsV RL 122 RX10 yX10_walks wsX10_walks) := goodIn_app (goodIn_of _ (by decide +kernel)) ggL_walks_X10_walks
theorem dL_walks_0 : decode cL_walks 0 = .ok (.bipush 22, 2) := by decide +kernel
theorem dL_walks_2 : decode cL_walks 2 = .ok (.newarray .int, 2) := by decide +kernel
theorem dL_walks_4 : decode cL_walks 4 = .ok (.astore 5, 2) := by decide +kernel
theorem dL_walks_6 : decode cL_walks 6 = .ok (.iconst 0, 1) := by decide +kernel
theorem dL_walks_7 : decode cL_walks 7 = .ok (.istore 6, 2) := by decide +kernel
theorem dL_walks_9 : decode cL_walks 9 = .ok (.iload 6, 2) := by decide +kernel
theorem dL_walks_11 : decode cL_walks 11 = .ok (.bipush 22, 2) := by decide +kernel
theorem dL_walks_13 : decode cL_walks 13 = .ok (.if_icmp .ge 18, 3) := by decide +kernel
theorem dL_walks_16 : decode cL_walks 16 = .ok (.aload 5, 2) := by decide +kernel
theorem dL_walks_18 : decode cL_walks 18 = .ok (.iload 6, 2) := by decide +kernel
theorem dL_walks_20 : decode cL_walks 20 = .ok (.aload_n 2, 1) := by decide +kernel
theorem dL_walks_21 : decode cL_walks 21 = .ok (.iload 6, 2) := by decide +kernel
theorem dL_walks_23 : decode cL_walks 23 = .ok (.iaload, 1) := by decide +kernel
theorem dL_walks_24 : decode cL_walks 24 = .ok (.iastore, 1) := by decide +kernel
theorem dL_walks_25 : decode cL_walks 25 = .ok (.iinc 6 1, 3) := by decide +kernel
theorem dL_walks_28 : decode cL_walks 28 = .ok (.goto (-19), 3) := by decide +kernel
theorem dL_walks_31 : decode cL_walks 31 = .ok (.aload_n 1, 1) := by decide +kernel
theorem dL_walks_32 : decode cL_walks 32 = .ok (.invokestatic 44, 3) := by decide +kernel
theorem dL_walks_35 : decode cL_walks 35 = .ok (.astore 6, 2) := by decide +kernel
theorem dL_walks_37 : decode cL_walks 37 = .ok (.iload 4, 2) := by decide +kernel
theorem dL_walks_39 : decode cL_walks 39 = .ok (.i2l, 1) := by decide +kernel
theorem dL_walks_40 : decode cL_walks 40 = .ok (.lstore 7, 2) := by decide +kernel
theorem dL_walks_42 : decode cL_walks 42 = .ok (.iconst 0, 1) := by decide +kernel
theorem dL_walks_43 : decode cL_walks 43 = .ok (.istore 9, 2) := by decide +kernel
theorem dL_walks_45 : decode cL_walks 45 = .ok (.iload 9, 2) := by decide +kernel
theorem dL_walks_47 : decode cL_walks 47 = .ok (.iload_n 3, 1) := by decide +kernel
theorem dL_walks_48 : decode cL_walks 48 = .ok (.if_icmp .ge 266, 3) := by decide +kernel
theorem dL_walks_51 : decode cL_walks 51 = .ok (.aload 5, 2) := by decide +kernel
theorem dL_walks_53 : decode cL_walks 53 = .ok (.bipush 20, 2) := by decide +kernel
theorem dL_walks_55 : decode cL_walks 55 = .ok (.iaload, 1) := by decide +kernel
theorem dL_walks_56 : decode cL_walks 56 = .ok (.ifCond .le 243, 3) := by decide +kernel
theorem dL_walks_59 : decode cL_walks 59 = .ok (.lload 7, 2) := by decide +kernel
theorem dL_walks_61 : decode cL_walks 61 = .ok (.ldc2_w 125, 3) := by decide +kernel
theorem dL_walks_64 : decode cL_walks 64 = .ok (.lmul, 1) := by decide +kernel
theorem dL_walks_65 : decode cL_walks 65 = .ok (.ldc2_w 127, 3) := by decide +kernel
theorem dL_walks_68 : decode cL_walks 68 = .ok (.ladd, 1) := by decide +kernel
theorem dL_walks_69 : decode cL_walks 69 = .ok (.ldc2_w 129, 3) := by decide +kernel
theorem dL_walks_72 : decode cL_walks 72 = .ok (.lrem, 1) := by decide +kernel
theorem dL_walks_73 : decode cL_walks 73 = .ok (.lstore 7, 2) := by decide +kernel
theorem dL_walks_75 : decode cL_walks 75 = .ok (.lload 7, 2) := by decide +kernel
theorem dL_walks_77 : decode cL_walks 77 = .ok (.ldc2_w 131, 3) := by decide +kernel
theorem dL_walks_80 : decode cL_walks 80 = .ok (.ldiv, 1) := by decide +kernel
theorem dL_walks_81 : decode cL_walks 81 = .ok (.aload 5, 2) := by decide +kernel
theorem dL_walks_83 : decode cL_walks 83 = .ok (.bipush 20, 2) := by decide +kernel
theorem dL_walks_85 : decode cL_walks 85 = .ok (.iaload, 1) := by decide +kernel
theorem dL_walks_86 : decode cL_walks 86 = .ok (.i2l, 1) := by decide +kernel
theorem dL_walks_87 : decode cL_walks 87 = .ok (.lrem, 1) := by decide +kernel
theorem dL_walks_88 : decode cL_walks 88 = .ok (.l2i, 1) := by decide +kernel
theorem dL_walks_89 : decode cL_walks 89 = .ok (.istore 10, 2) := by decide +kernel
theorem dL_walks_91 : decode cL_walks 91 = .ok (.iconst 0, 1) := by decide +kernel
theorem dL_walks_92 : decode cL_walks 92 = .ok (.istore 11, 2) := by decide +kernel
theorem dL_walks_94 : decode cL_walks 94 = .ok (.iconst 0, 1) := by decide +kernel
theorem dL_walks_95 : decode cL_walks 95 = .ok (.istore 12, 2) := by decide +kernel
theorem dL_walks_97 : decode cL_walks 97 = .ok (.iload 12, 2) := by decide +kernel
theorem dL_walks_99 : decode cL_walks 99 = .ok (.aload_n 1, 1) := by decide +kernel
theorem dL_walks_100 : decode cL_walks 100 = .ok (.iconst 0, 1) := by decide +kernel
theorem dL_walks_101 : decode cL_walks 101 = .ok (.iaload, 1) := by decide +kernel
theorem dL_walks_102 : decode cL_walks 102 = .ok (.if_icmp .ge 65, 3) := by decide +kernel
theorem dL_walks_105 : decode cL_walks 105 = .ok (.iload 11, 2) := by decide +kernel
theorem dL_walks_107 : decode cL_walks 107 = .ok (.aload_n 1, 1) := by decide +kernel
theorem dL_walks_108 : decode cL_walks 108 = .ok (.bipush 41, 2) := by decide +kernel
theorem dL_walks_110 : decode cL_walks 110 = .ok (.iload 12, 2) := by decide +kernel
theorem dL_walks_112 : decode cL_walks 112 = .ok (.iadd, 1) := by decide +kernel
theorem dL_walks_113 : decode cL_walks 113 = .ok (.iaload, 1) := by decide +kernel
theorem dL_walks_114 : decode cL_walks 114 = .ok (.iconst 1, 1) := by decide +kernel
theorem dL_walks_115 : decode cL_walks 115 = .ok (.if_icmp .ne 42, 3) := by decide +kernel
theorem dL_walks_118 : decode cL_walks 118 = .ok (.aload_n 1, 1) := by decide +kernel
theorem dL_walks_119 : decode cL_walks 119 = .ok (.iconst 1, 1) := by decide +kernel
theorem dL_walks_120 : decode cL_walks 120 = .ok (.iload 12, 2) := by decide +kernel
theorem dL_walks_122 : decode cL_walks 122 = .ok (.iadd, 1) := by decide +kernel
theorem dL_walks_123 : decode cL_walks 123 = .ok (.iaload, 1) := by decide +kernel
theorem dL_walks_124 : decode cL_walks 124 = .ok (.aload 5, 2) := by decide +kernel
theorem dL_walks_126 : decode cL_walks 126 = .ok (.bipush 13, 2) := by decide +kernel
theorem dL_walks_128 : decode cL_walks 128 = .ok (.iload 10, 2) := by decide +kernel
theorem dL_walks_130 : decode cL_walks 130 = .ok (.iadd, 1) := by decide +kernel
theorem dL_walks_131 : decode cL_walks 131 = .ok (.iaload, 1) := by decide +kernel
theorem dL_walks_132 : decode cL_walks 132 = .ok (.if_icmp .eq 21, 3) := by decide +kernel
theorem dL_walks_135 : decode cL_walks 135 = .ok (.aload_n 1, 1) := by decide +kernel
theorem dL_walks_136 : decode cL_walks 136 = .ok (.bipush 11, 2) := by decide +kernel
theorem dL_walks_138 : decode cL_walks 138 = .ok (.iload 12, 2) := by decide +kernel
theorem dL_walks_140 : decode cL_walks 140 = .ok (.iadd, 1) := by decide +kernel
theorem dL_walks_141 : decode cL_walks 141 = .ok (.iaload, 1) := by decide +kernel
theorem dL_walks_142 : decode cL_walks 142 = .ok (.aload 5, 2) := by decide +kernel
theorem dL_walks_144 : decode cL_walks 144 = .ok (.bipush 13, 2) := by decide +kernel
theorem dL_walks_146 : decode cL_walks 146 = .ok (.iload 10, 2) := by decide +kernel
theorem dL_walks_148 : decode cL_walks 148 = .ok (.iadd, 1) := by decide +kernel
theorem dL_walks_149 : decode cL_walks 149 = .ok (.iaload, 1) := by decide +kernel
theorem dL_walks_150 : decode cL_walks 150 = .ok (.if_icmp .ne 7, 3) := by decide +kernel
theorem dL_walks_153 : decode cL_walks 153 = .ok (.iconst 1, 1) := by decide +kernel
theorem dL_walks_154 : decode cL_walks 154 = .ok (.goto 4, 3) := by decide +kernel
theorem dL_walks_157 : decode cL_walks 157 = .ok (.iconst 0, 1) := by decide +kernel
theorem dL_walks_158 : decode cL_walks 158 = .ok (.iadd, 1) := by decide +kernel
theorem dL_walks_159 : decode cL_walks 159 = .ok (.istore 11, 2) := by decide +kernel
theorem dL_walks_161 : decode cL_walks 161 = .ok (.iinc 12 1, 3) := by decide +kernel
theorem dL_walks_164 : decode cL_walks 164 = .ok (.goto (-67), 3) := by decide +kernel
theorem dL_walks_167 : decode cL_walks 167 = .ok (.aload 5, 2) := by decide +kernel
theorem dL_walks_169 : decode cL_walks 169 = .ok (.bipush 19, 2) := by decide +kernel
theorem dL_walks_171 : decode cL_walks 171 = .ok (.iaload, 1) := by decide +kernel
theorem dL_walks_172 : decode cL_walks 172 = .ok (.iload 10, 2) := by decide +kernel
theorem dL_walks_174 : decode cL_walks 174 = .ok (.ishr, 1) := by decide +kernel
theorem dL_walks_175 : decode cL_walks 175 = .ok (.iconst 1, 1) := by decide +kernel
theorem dL_walks_176 : decode cL_walks 176 = .ok (.iand, 1) := by decide +kernel
theorem dL_walks_177 : decode cL_walks 177 = .ok (.ifCond .ne 122, 3) := by decide +kernel
theorem dL_walks_180 : decode cL_walks 180 = .ok (.iload 11, 2) := by decide +kernel
theorem dL_walks_182 : decode cL_walks 182 = .ok (.ifCond .le 117, 3) := by decide +kernel
theorem dL_walks_185 : decode cL_walks 185 = .ok (.lload 7, 2) := by decide +kernel
theorem dL_walks_187 : decode cL_walks 187 = .ok (.ldc2_w 125, 3) := by decide +kernel
theorem dL_walks_190 : decode cL_walks 190 = .ok (.lmul, 1) := by decide +kernel
theorem dL_walks_191 : decode cL_walks 191 = .ok (.ldc2_w 127, 3) := by decide +kernel
theorem dL_walks_194 : decode cL_walks 194 = .ok (.ladd, 1) := by decide +kernel
theorem dL_walks_195 : decode cL_walks 195 = .ok (.ldc2_w 129, 3) := by decide +kernel
theorem dL_walks_198 : decode cL_walks 198 = .ok (.lrem, 1) := by decide +kernel
theorem dL_walks_199 : decode cL_walks 199 = .ok (.lstore 7, 2) := by decide +kernel
theorem dL_walks_201 : decode cL_walks 201 = .ok (.lload 7, 2) := by decide +kernel
theorem dL_walks_203 : decode cL_walks 203 = .ok (.ldc2_w 131, 3) := by decide +kernel
theorem dL_walks_206 : decode cL_walks 206 = .ok (.ldiv, 1) := by decide +kernel
theorem dL_walks_207 : decode cL_walks 207 = .ok (.iload 11, 2) := by decide +kernel
theorem dL_walks_209 : decode cL_walks 209 = .ok (.i2l, 1) := by decide +kernel
theorem dL_walks_210 : decode cL_walks 210 = .ok (.lrem, 1) := by decide +kernel
theorem dL_walks_211 : decode cL_walks 211 = .ok (.l2i, 1) := by decide +kernel
theorem dL_walks_212 : decode cL_walks 212 = .ok (.istore 12, 2) := by decide +kernel
theorem dL_walks_214 : decode cL_walks 214 = .ok (.aload 5, 2) := by decide +kernel
theorem dL_walks_216 : decode cL_walks 216 = .ok (.bipush 13, 2) := by decide +kernel
theorem dL_walks_218 : decode cL_walks 218 = .ok (.iload 10, 2) := by decide +kernel
theorem dL_walks_220 : decode cL_walks 220 = .ok (.iadd, 1) := by decide +kernel
theorem dL_walks_221 : decode cL_walks 221 = .ok (.iaload, 1) := by decide +kernel
theorem dL_walks_222 : decode cL_walks 222 = .ok (.istore 13, 2) := by decide +kernel
theorem dL_walks_224 : decode cL_walks 224 = .ok (.iconst 0, 1) := by decide +kernel
theorem dL_walks_225 : decode cL_walks 225 = .ok (.istore 14, 2) := by decide +kernel
theorem dL_walks_227 : decode cL_walks 227 = .ok (.iload 14, 2) := by decide +kernel
theorem dL_walks_229 : decode cL_walks 229 = .ok (.aload_n 1, 1) := by decide +kernel
theorem dL_walks_230 : decode cL_walks 230 = .ok (.iconst 0, 1) := by decide +kernel
theorem dL_walks_231 : decode cL_walks 231 = .ok (.iaload, 1) := by decide +kernel
theorem dL_walks_232 : decode cL_walks 232 = .ok (.if_icmp .ge 67, 3) := by decide +kernel
theorem dL_walks_235 : decode cL_walks 235 = .ok (.aload_n 1, 1) := by decide +kernel
theorem dL_walks_236 : decode cL_walks 236 = .ok (.bipush 41, 2) := by decide +kernel
theorem dL_walks_238 : decode cL_walks 238 = .ok (.iload 14, 2) := by decide +kernel
theorem dL_walks_240 : decode cL_walks 240 = .ok (.iadd, 1) := by decide +kernel
theorem dL_walks_241 : decode cL_walks 241 = .ok (.iaload, 1) := by decide +kernel
theorem dL_walks_242 : decode cL_walks 242 = .ok (.iconst 1, 1) := by decide +kernel
theorem dL_walks_243 : decode cL_walks 243 = .ok (.if_icmp .ne 50, 3) := by decide +kernel
theorem dL_walks_246 : decode cL_walks 246 = .ok (.aload_n 1, 1) := by decide +kernel
theorem dL_walks_247 : decode cL_walks 247 = .ok (.iconst 1, 1) := by decide +kernel
theorem dL_walks_248 : decode cL_walks 248 = .ok (.iload 14, 2) := by decide +kernel
theorem dL_walks_250 : decode cL_walks 250 = .ok (.iadd, 1) := by decide +kernel
theorem dL_walks_251 : decode cL_walks 251 = .ok (.iaload, 1) := by decide +kernel
theorem dL_walks_252 : decode cL_walks 252 = .ok (.iload 13, 2) := by decide +kernel
theorem dL_walks_254 : decode cL_walks 254 = .ok (.if_icmp .eq 15, 3) := by decide +kernel
theorem dL_walks_257 : decode cL_walks 257 = .ok (.aload_n 1, 1) := by decide +kernel
theorem dL_walks_258 : decode cL_walks 258 = .ok (.bipush 11, 2) := by decide +kernel
theorem dL_walks_260 : decode cL_walks 260 = .ok (.iload 14, 2) := by decide +kernel
theorem dL_walks_262 : decode cL_walks 262 = .ok (.iadd, 1) := by decide +kernel
theorem dL_walks_263 : decode cL_walks 263 = .ok (.iaload, 1) := by decide +kernel
theorem dL_walks_264 : decode cL_walks 264 = .ok (.iload 13, 2) := by decide +kernel
theorem dL_walks_266 : decode cL_walks 266 = .ok (.if_icmp .ne 27, 3) := by decide +kernel
theorem dL_walks_269 : decode cL_walks 269 = .ok (.iload 12, 2) := by decide +kernel
theorem dL_walks_271 : decode cL_walks 271 = .ok (.iinc 12 (-1), 3) := by decide +kernel
theorem dL_walks_274 : decode cL_walks 274 = .ok (.ifCond .ne 19, 3) := by decide +kernel
theorem dL_walks_277 : decode cL_walks 277 = .ok (.aload 5, 2) := by decide +kernel
theorem dL_walks_279 : decode cL_walks 279 = .ok (.bipush 13, 2) := by decide +kernel
theorem dL_walks_281 : decode cL_walks 281 = .ok (.iload 10, 2) := by decide +kernel
theorem dL_walks_283 : decode cL_walks 283 = .ok (.iadd, 1) := by decide +kernel
theorem dL_walks_284 : decode cL_walks 284 = .ok (.aload_n 1, 1) := by decide +kernel
theorem dL_walks_285 : decode cL_walks 285 = .ok (.iload 14, 2) := by decide +kernel
theorem dL_walks_287 : decode cL_walks 287 = .ok (.iload 13, 2) := by decide +kernel
theorem dL_walks_289 : decode cL_walks 289 = .ok (.invokestatic 97, 3) := by decide +kernel
theorem dL_walks_292 : decode cL_walks 292 = .ok (.iastore, 1) := by decide +kernel
theorem dL_walks_293 : decode cL_walks 293 = .ok (.iinc 14 1, 3) := by decide +kernel
theorem dL_walks_296 : decode cL_walks 296 = .ok (.goto (-69), 3) := by decide +kernel
theorem dL_walks_299 : decode cL_walks 299 = .ok (.aload_n 1, 1) := by decide +kernel
theorem dL_walks_300 : decode cL_walks 300 = .ok (.aload 6, 2) := by decide +kernel
theorem dL_walks_302 : decode cL_walks 302 = .ok (.aload 5, 2) := by decide +kernel
theorem dL_walks_304 : decode cL_walks 304 = .ok (.invokestatic 104, 3) := by decide +kernel
theorem dL_walks_307 : decode cL_walks 307 = .ok (.pop, 1) := by decide +kernel
theorem dL_walks_308 : decode cL_walks 308 = .ok (.iinc 9 1, 3) := by decide +kernel
theorem dL_walks_311 : decode cL_walks 311 = .ok (.goto (-266), 3) := by decide +kernel
theorem dL_walks_314 : decode cL_walks 314 = .ok (.iconst 0, 1) := by decide +kernel
theorem dL_walks_315 : decode cL_walks 315 = .ok (.istore 9, 2) := by decide +kernel
theorem dL_walks_317 : decode cL_walks 317 = .ok (.iconst 0, 1) := by decide +kernel
theorem dL_walks_318 : decode cL_walks 318 = .ok (.istore 10, 2) := by decide +kernel
theorem dL_walks_320 : decode cL_walks 320 = .ok (.iconst 0, 1) := by decide +kernel
theorem dL_walks_321 : decode cL_walks 321 = .ok (.istore 11, 2) := by decide +kernel
theorem dL_walks_323 : decode cL_walks 323 = .ok (.iload 11, 2) := by decide +kernel
theorem dL_walks_325 : decode cL_walks 325 = .ok (.bipush 7, 2) := by decide +kernel
theorem dL_walks_327 : decode cL_walks 327 = .ok (.if_icmp .ge 34, 3) := by decide +kernel
theorem dL_walks_330 : decode cL_walks 330 = .ok (.iload 9, 2) := by decide +kernel
theorem dL_walks_332 : decode cL_walks 332 = .ok (.aload 5, 2) := by decide +kernel
theorem dL_walks_334 : decode cL_walks 334 = .ok (.bipush 19, 2) := by decide +kernel
theorem dL_walks_336 : decode cL_walks 336 = .ok (.iaload, 1) := by decide +kernel
theorem dL_walks_337 : decode cL_walks 337 = .ok (.iload 11, 2) := by decide +kernel
theorem dL_walks_339 : decode cL_walks 339 = .ok (.ishr, 1) := by decide +kernel
theorem dL_walks_340 : decode cL_walks 340 = .ok (.iconst 1, 1) := by decide +kernel
theorem dL_walks_341 : decode cL_walks 341 = .ok (.iand, 1) := by decide +kernel
theorem dL_walks_342 : decode cL_walks 342 = .ok (.iadd, 1) := by decide +kernel
theorem dL_walks_343 : decode cL_walks 343 = .ok (.istore 9, 2) := by decide +kernel
theorem dL_walks_345 : decode cL_walks 345 = .ok (.iload 10, 2) := by decide +kernel
theorem dL_walks_347 : decode cL_walks 347 = .ok (.aload 5, 2) := by decide +kernel
theorem dL_walks_349 : decode cL_walks 349 = .ok (.iload 11, 2) := by decide +kernel
theorem dL_walks_351 : decode cL_walks 351 = .ok (.iaload, 1) := by decide +kernel
theorem dL_walks_352 : decode cL_walks 352 = .ok (.iadd, 1) := by decide +kernel
theorem dL_walks_353 : decode cL_walks 353 = .ok (.istore 10, 2) := by decide +kernel
theorem dL_walks_355 : decode cL_walks 355 = .ok (.iinc 11 1, 3) := by decide +kernel
theorem dL_walks_358 : decode cL_walks 358 = .ok (.goto (-35), 3) := by decide +kernel
theorem dL_walks_361 : decode cL_walks 361 = .ok (.aload_n 0, 1) := by decide +kernel
theorem dL_walks_362 : decode cL_walks 362 = .ok (.iload_n 3, 1) := by decide +kernel
theorem dL_walks_363 : decode cL_walks 363 = .ok (.iload 4, 2) := by decide +kernel
theorem dL_walks_365 : decode cL_walks 365 = .ok (.iconst 0, 1) := by decide +kernel
theorem dL_walks_366 : decode cL_walks 366 = .ok (.invokevirtual 122, 3) := by decide +kernel
theorem dL_walks_369 : decode cL_walks 369 = .ok (.iload 9, 2) := by decide +kernel
theorem dL_walks_371 : decode cL_walks 371 = .ok (.if_icmp .ne 63, 3) := by decide +kernel
theorem dL_walks_374 : decode cL_walks 374 = .ok (.aload_n 0, 1) := by decide +kernel
theorem dL_walks_375 : decode cL_walks 375 = .ok (.iload_n 3, 1) := by decide +kernel
theorem dL_walks_376 : decode cL_walks 376 = .ok (.iload 4, 2) := by decide +kernel
theorem dL_walks_378 : decode cL_walks 378 = .ok (.iconst 1, 1) := by decide +kernel
theorem dL_walks_379 : decode cL_walks 379 = .ok (.invokevirtual 122, 3) := by decide +kernel
theorem dL_walks_382 : decode cL_walks 382 = .ok (.aload 5, 2) := by decide +kernel
theorem dL_walks_384 : decode cL_walks 384 = .ok (.bipush 20, 2) := by decide +kernel
theorem dL_walks_386 : decode cL_walks 386 = .ok (.iaload, 1) := by decide +kernel
theorem dL_walks_387 : decode cL_walks 387 = .ok (.ifCond .ne 7, 3) := by decide +kernel
theorem dL_walks_390 : decode cL_walks 390 = .ok (.iconst (-1), 1) := by decide +kernel
theorem dL_walks_391 : decode cL_walks 391 = .ok (.goto 8, 3) := by decide +kernel
theorem dL_walks_394 : decode cL_walks 394 = .ok (.aload 5, 2) := by decide +kernel
theorem dL_walks_396 : decode cL_walks 396 = .ok (.bipush 13, 2) := by decide +kernel
theorem dL_walks_398 : decode cL_walks 398 = .ok (.iaload, 1) := by decide +kernel
theorem dL_walks_399 : decode cL_walks 399 = .ok (.if_icmp .ne 35, 3) := by decide +kernel
theorem dL_walks_402 : decode cL_walks 402 = .ok (.aload_n 0, 1) := by decide +kernel
theorem dL_walks_403 : decode cL_walks 403 = .ok (.iload_n 3, 1) := by decide +kernel
theorem dL_walks_404 : decode cL_walks 404 = .ok (.iload 4, 2) := by decide +kernel
theorem dL_walks_406 : decode cL_walks 406 = .ok (.iconst 2, 1) := by decide +kernel
theorem dL_walks_407 : decode cL_walks 407 = .ok (.invokevirtual 122, 3) := by decide +kernel
theorem dL_walks_410 : decode cL_walks 410 = .ok (.iload 10, 2) := by decide +kernel
theorem dL_walks_412 : decode cL_walks 412 = .ok (.if_icmp .ne 22, 3) := by decide +kernel
theorem dL_walks_415 : decode cL_walks 415 = .ok (.aload_n 0, 1) := by decide +kernel
theorem dL_walks_416 : decode cL_walks 416 = .ok (.iload_n 3, 1) := by decide +kernel
theorem dL_walks_417 : decode cL_walks 417 = .ok (.iload 4, 2) := by decide +kernel
theorem dL_walks_419 : decode cL_walks 419 = .ok (.iconst 3, 1) := by decide +kernel
theorem dL_walks_420 : decode cL_walks 420 = .ok (.invokevirtual 122, 3) := by decide +kernel
theorem dL_walks_423 : decode cL_walks 423 = .ok (.i2l, 1) := by decide +kernel
theorem dL_walks_424 : decode cL_walks 424 = .ok (.lload 7, 2) := by decide +kernel
theorem dL_walks_426 : decode cL_walks 426 = .ok (.lcmp, 1) := by decide +kernel
theorem dL_walks_427 : decode cL_walks 427 = .ok (.ifCond .ne 7, 3) := by decide +kernel
theorem dL_walks_430 : decode cL_walks 430 = .ok (.iconst 1, 1) := by decide +kernel
theorem dL_walks_431 : decode cL_walks 431 = .ok (.goto 4, 3) := by decide +kernel
theorem dL_walks_434 : decode cL_walks 434 = .ok (.iconst 0, 1) := by decide +kernel
theorem dL_walks_435 : decode cL_walks 435 = .ok (.ireturn, 1) := by decide +kernel
end
