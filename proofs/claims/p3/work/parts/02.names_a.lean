theorem goodIn_r {big : List Cond} (ws : List Cond) (ps : List Nat) (hp : ws = ps.filterMap (fun i => big[i]?)) (h : ws.all goodWord = true) : GoodIn big ws := by
  intro w hw
  have h1 := List.all_eq_true.mp h w hw
  rw [hp] at hw
  obtain ⟨i, -, hi⟩ := List.mem_filterMap.mp hw
  have hm : w ∈ big := by first | exact List.mem_of_getElem? hi | exact List.getElem?_mem hi
  exact ⟨hm, good_of_word h1⟩
def RX0 : String := "MoleMaps$Air"
def TX0 : u_T := fun k => match k with
  | 0 => ("MoleMaps$Air", "height", "LMoleMaps$Row;", true)
  | 1 => ("MoleMaps$Air", "into", "LMoleMaps$Row;", true)
  | 2 => ("MoleMaps$Air", "breathing", "I", false)
  | _ => ("MoleMaps$Air", "nearest", "LMoleMaps$Row;", true)
def tyX0 : Nat → FieldType := fun k => match k with
  | 0 => .object "MoleMaps$Row"
  | 1 => .object "MoleMaps$Row"
  | 2 => .int
  | _ => .object "MoleMaps$Row"
abbrev wsX00 : List Cond := u_ws RX0 TX0 4
theorem nmX0 : ∀ a, a < 4 → ∀ b, b < 4 → a ≠ b → (TX0 a).2.1 ≠ (TX0 b).2.1 := by decide +kernel
theorem tyX0_ok : ∀ k, k < 4 → parseFieldDescriptor (TX0 k).2.2.1 = some (tyX0 k) := by decide +kernel
abbrev cX0_init : ByteArray := prog_2_method_1_code
def yX0_init : MethodName := ⟨RX0, "<init>", "()V"⟩
abbrev cX0_blow : ByteArray := prog_2_method_2_code
def yX0_blow : MethodName := ⟨RX0, "blow", "(LMoleMaps$Plan;IZ)V"⟩
abbrev cX0_findNearest : ByteArray := prog_2_method_3_code
def yX0_findNearest : MethodName := ⟨RX0, "findNearest", "(LMoleMaps$Plan;I)V"⟩
abbrev cX0_spread : ByteArray := prog_2_method_4_code
def yX0_spread : MethodName := ⟨RX0, "spread", "(III)I"⟩
abbrev cX0_heightOf : ByteArray := prog_2_method_5_code
def yX0_heightOf : MethodName := ⟨RX0, "heightOf", "(ILMoleMaps$Plan;Z)I"⟩
abbrev cX0_findFlows : ByteArray := prog_2_method_6_code
def yX0_findFlows : MethodName := ⟨RX0, "findFlows", "(LMoleMaps$Plan;I)V"⟩
abbrev cX0_lower : ByteArray := prog_2_method_7_code
def yX0_lower : MethodName := ⟨RX0, "lower", "(II)I"⟩
abbrev cX0_firstInto : ByteArray := prog_2_method_8_code
def yX0_firstInto : MethodName := ⟨RX0, "firstInto", "(LMoleMaps$Plan;I)I"⟩
abbrev cX0_carrySmoke : ByteArray := prog_2_method_9_code
def yX0_carrySmoke : MethodName := ⟨RX0, "carrySmoke", "(LMoleMaps$Plan;LMoleMaps$Table;)V"⟩
def RX1 : String := "MoleMaps$Crew"
def TX1 : u_T := fun k => match k with
  | 0 => ("MoleMaps$Crew", "kinds", "LMoleMaps$Row;", true)
  | _ => ("MoleMaps$Crew", "size", "I", false)
def tyX1 : Nat → FieldType := fun k => match k with
  | 0 => .object "MoleMaps$Row"
  | _ => .int
abbrev wsX10 : List Cond := u_ws RX1 TX1 2
theorem nmX1 : ∀ a, a < 2 → ∀ b, b < 2 → a ≠ b → (TX1 a).2.1 ≠ (TX1 b).2.1 := by decide +kernel
theorem tyX1_ok : ∀ k, k < 2 → parseFieldDescriptor (TX1 k).2.2.1 = some (tyX1 k) := by decide +kernel
abbrev cX1_init : ByteArray := prog_3_method_1_code
def yX1_init : MethodName := ⟨RX1, "<init>", "()V"⟩
abbrev cX1_isKind : ByteArray := prog_3_method_2_code
def yX1_isKind : MethodName := ⟨RX1, "isKind", "(I)Z"⟩
abbrev cX1_has : ByteArray := prog_3_method_3_code
def yX1_has : MethodName := ⟨RX1, "has", "(I)Z"⟩
abbrev cX1_isOf : ByteArray := prog_3_method_4_code
def yX1_isOf : MethodName := ⟨RX1, "isOf", "(II)Z"⟩
abbrev cX1_bears : ByteArray := prog_3_method_5_code
def yX1_bears : MethodName := ⟨RX1, "bears", "(I)I"⟩
abbrev cX1_noses : ByteArray := prog_3_method_6_code
def yX1_noses : MethodName := ⟨RX1, "noses", "()I"⟩
def RX2 : String := "MoleMaps$Draws"
def TX2 : u_T := fun k => match k with
  | _ => ("MoleMaps$Draws", "seed", "I", false)
def tyX2 : Nat → FieldType := fun k => match k with
  | _ => .int
abbrev wsX20 : List Cond := u_ws RX2 TX2 1
theorem tyX2_ok : ∀ k, k < 1 → parseFieldDescriptor (TX2 k).2.2.1 = some (tyX2 k) := by decide +kernel
abbrev cX2_init : ByteArray := prog_4_method_1_code
def yX2_init : MethodName := ⟨RX2, "<init>", "()V"⟩
abbrev cX2_draw : ByteArray := prog_4_method_2_code
def yX2_draw : MethodName := ⟨RX2, "draw", "(I)I"⟩
def RX3 : String := "MoleMaps$Moment"
def TX3 : u_T := fun k => match k with
  | 0 => ("MoleMaps$Moment", "open", "I", false)
  | 1 => ("MoleMaps$Moment", "moon", "Z", false)
  | 2 => ("MoleMaps$Moment", "gas", "LMoleMaps$Row;", true)
  | 3 => ("MoleMaps$Moment", "place", "LMoleMaps$Row;", true)
  | 4 => ("MoleMaps$Moment", "out", "I", false)
  | _ => ("MoleMaps$Moment", "gone", "I", false)
def tyX3 : Nat → FieldType := fun k => match k with
  | 0 => .int
  | 1 => .boolean
  | 2 => .object "MoleMaps$Row"
  | 3 => .object "MoleMaps$Row"
  | 4 => .int
  | _ => .int
abbrev wsX30 : List Cond := u_ws RX3 TX3 6
theorem nmX3 : ∀ a, a < 6 → ∀ b, b < 6 → a ≠ b → (TX3 a).2.1 ≠ (TX3 b).2.1 := by decide +kernel
theorem tyX3_ok : ∀ k, k < 6 → parseFieldDescriptor (TX3 k).2.2.1 = some (tyX3 k) := by decide +kernel
abbrev cX3_init : ByteArray := prog_5_method_1_code
def yX3_init : MethodName := ⟨RX3, "<init>", "()V"⟩
abbrev cX3_begin : ByteArray := prog_5_method_2_code
def yX3_begin : MethodName := ⟨RX3, "begin", "(I)V"⟩
abbrev cX3_copyFrom : ByteArray := prog_5_method_3_code
def yX3_copyFrom : MethodName := ⟨RX3, "copyFrom", "(LMoleMaps$Moment;)V"⟩
abbrev cX3_passMinute : ByteArray := prog_5_method_4_code
def yX3_passMinute : MethodName := ⟨RX3, "passMinute", "(LMoleMaps$Crew;I)V"⟩
def RX4 : String := "MoleMaps$Page"
def TX4 : u_T := fun k => match k with
  | 0 => ("MoleMaps$Page", "letters", "LMoleMaps$Row;", true)
  | 1 => ("MoleMaps$Page", "length", "I", false)
  | _ => ("MoleMaps$Page", "reader", "LMoleMaps$Reader;", true)
def tyX4 : Nat → FieldType := fun k => match k with
  | 0 => .object "MoleMaps$Row"
  | 1 => .int
  | _ => .object "MoleMaps$Reader"
abbrev wsX40 : List Cond := u_ws RX4 TX4 3
theorem nmX4 : ∀ a, a < 3 → ∀ b, b < 3 → a ≠ b → (TX4 a).2.1 ≠ (TX4 b).2.1 := by decide +kernel
theorem tyX4_ok : ∀ k, k < 3 → parseFieldDescriptor (TX4 k).2.2.1 = some (tyX4 k) := by decide +kernel
abbrev cX4_init : ByteArray := prog_6_method_1_code
def yX4_init : MethodName := ⟨RX4, "<init>", "()V"⟩
abbrev cX4_lettersIn : ByteArray := prog_6_method_2_code
def yX4_lettersIn : MethodName := ⟨RX4, "lettersIn", "(J)I"⟩
abbrev cX4_byteOf : ByteArray := prog_6_method_3_code
def yX4_byteOf : MethodName := ⟨RX4, "byteOf", "(JI)I"⟩
abbrev cX4_append : ByteArray := prog_6_method_4_code
def yX4_append : MethodName := ⟨RX4, "append", "(JI)V"⟩
abbrev cX4_firstFault : ByteArray := prog_6_method_5_code
def yX4_firstFault : MethodName := ⟨RX4, "firstFault", "()I"⟩
abbrev cX4_isMine : ByteArray := prog_6_method_6_code
def yX4_isMine : MethodName := ⟨RX4, "isMine", "()Z"⟩
abbrev cX4_digit : ByteArray := prog_6_method_7_code
def yX4_digit : MethodName := ⟨RX4, "digit", "(I)I"⟩
def RX5 : String := "MoleMaps$Plan"
def TX5 : u_T := fun k => match k with
  | 0 => ("MoleMaps$Plan", "galleries", "I", false)
  | 1 => ("MoleMaps$Plan", "one", "LMoleMaps$Row;", true)
  | 2 => ("MoleMaps$Plan", "two", "LMoleMaps$Row;", true)
  | 3 => ("MoleMaps$Plan", "length", "LMoleMaps$Row;", true)
  | 4 => ("MoleMaps$Plan", "doors", "I", false)
  | 5 => ("MoleMaps$Plan", "draught", "LMoleMaps$Row;", true)
  | _ => ("MoleMaps$Plan", "shafts", "I", false)
def tyX5 : Nat → FieldType := fun k => match k with
  | 0 => .int
  | 1 => .object "MoleMaps$Row"
  | 2 => .object "MoleMaps$Row"
  | 3 => .object "MoleMaps$Row"
  | 4 => .int
  | 5 => .object "MoleMaps$Row"
  | _ => .int
abbrev wsX50 : List Cond := u_ws RX5 TX5 7
theorem nmX5 : ∀ a, a < 7 → ∀ b, b < 7 → a ≠ b → (TX5 a).2.1 ≠ (TX5 b).2.1 := by decide +kernel
theorem tyX5_ok : ∀ k, k < 7 → parseFieldDescriptor (TX5 k).2.2.1 = some (tyX5 k) := by decide +kernel
abbrev cX5_init : ByteArray := prog_7_method_1_code
def yX5_init : MethodName := ⟨RX5, "<init>", "()V"⟩
abbrev cX5_isRead : ByteArray := prog_7_method_2_code
def yX5_isRead : MethodName := ⟨RX5, "isRead", "()Z"⟩
abbrev cX5_hasGallery : ByteArray := prog_7_method_3_code
def yX5_hasGallery : MethodName := ⟨RX5, "hasGallery", "(I)Z"⟩
abbrev cX5_isShaft : ByteArray := prog_7_method_4_code
def yX5_isShaft : MethodName := ⟨RX5, "isShaft", "(I)Z"⟩
abbrev cX5_allGalleries : ByteArray := prog_7_method_5_code
def yX5_allGalleries : MethodName := ⟨RX5, "allGalleries", "()I"⟩
abbrev cX5_readFrom : ByteArray := prog_7_method_6_code
def yX5_readFrom : MethodName := ⟨RX5, "readFrom", "(LMoleMaps$Page;)V"⟩
abbrev cX5_readShafts : ByteArray := prog_7_method_7_code
def yX5_readShafts : MethodName := ⟨RX5, "readShafts", "(LMoleMaps$Page;I)V"⟩
abbrev cX5_shaftHeight : ByteArray := prog_7_method_8_code
def yX5_shaftHeight : MethodName := ⟨RX5, "shaftHeight", "(IZ)I"⟩
abbrev cX5_isAt : ByteArray := prog_7_method_9_code
def yX5_isAt : MethodName := ⟨RX5, "isAt", "(II)Z"⟩
abbrev cX5_otherEnd : ByteArray := prog_7_method_10_code
def yX5_otherEnd : MethodName := ⟨RX5, "otherEnd", "(II)I"⟩
abbrev cX5_galleriesAt : ByteArray := prog_7_method_11_code
def yX5_galleriesAt : MethodName := ⟨RX5, "galleriesAt", "(II)I"⟩
def RX6 : String := "MoleMaps$Reader"
def TX6 : u_T := fun k => match k with
  | 0 => ("MoleMaps$Reader", "due", "I", false)
  | 1 => ("MoleMaps$Reader", "first", "I", false)
  | 2 => ("MoleMaps$Reader", "galleries", "I", false)
  | _ => ("MoleMaps$Reader", "shafts", "I", false)
def tyX6 : Nat → FieldType := fun k => match k with
  | 0 => .int
  | 1 => .int
  | 2 => .int
  | _ => .int
abbrev wsX60 : List Cond := u_ws RX6 TX6 4
theorem tyX6_ok : ∀ k, k < 4 → parseFieldDescriptor (TX6 k).2.2.1 = some (tyX6 k) := by decide +kernel
abbrev cX6_init : ByteArray := prog_8_method_1_code
def yX6_init : MethodName := ⟨RX6, "<init>", "()V"⟩
abbrev cX6_start : ByteArray := prog_8_method_2_code
def yX6_start : MethodName := ⟨RX6, "start", "()V"⟩
abbrev cX6_takes : ByteArray := prog_8_method_3_code
def yX6_takes : MethodName := ⟨RX6, "takes", "(I)Z"⟩
abbrev cX6_mayEnd : ByteArray := prog_8_method_4_code
def yX6_mayEnd : MethodName := ⟨RX6, "mayEnd", "()Z"⟩
abbrev cX6_takesBreak : ByteArray := prog_8_method_5_code
def yX6_takesBreak : MethodName := ⟨RX6, "takesBreak", "(I)Z"⟩
abbrev cX6_takesShaft : ByteArray := prog_8_method_6_code
def yX6_takesShaft : MethodName := ⟨RX6, "takesShaft", "(I)Z"⟩
def RX7 : String := "MoleMaps$Rescue"
def TX7 : u_T := fun k => match k with
  | 0 => ("MoleMaps$Rescue", "best", "LMoleMaps$Row;", true)
  | 1 => ("MoleMaps$Rescue", "leastRisk", "I", false)
  | 2 => ("MoleMaps$Rescue", "order", "LMoleMaps$Row;", true)
  | 3 => ("MoleMaps$Rescue", "size", "I", false)
  | _ => ("MoleMaps$Rescue", "ways", "LMoleMaps$Table;", true)
def tyX7 : Nat → FieldType := fun k => match k with
  | 0 => .object "MoleMaps$Row"
  | 1 => .int
  | 2 => .object "MoleMaps$Row"
  | 3 => .int
  | _ => .object "MoleMaps$Table"
abbrev wsX70 : List Cond := u_ws RX7 TX7 5
theorem nmX7 : ∀ a, a < 5 → ∀ b, b < 5 → a ≠ b → (TX7 a).2.1 ≠ (TX7 b).2.1 := by decide +kernel
theorem tyX7_ok : ∀ k, k < 5 → parseFieldDescriptor (TX7 k).2.2.1 = some (tyX7 k) := by decide +kernel
abbrev cX7_init : ByteArray := prog_9_method_1_code
def yX7_init : MethodName := ⟨RX7, "<init>", "()V"⟩
abbrev cX7_findBest : ByteArray := prog_9_method_2_code
def yX7_findBest : MethodName := ⟨RX7, "findBest", "(LMoleMaps$Plan;LMoleMaps$Moment;II)V"⟩
abbrev cX7_findWays : ByteArray := prog_9_method_3_code
def yX7_findWays : MethodName := ⟨RX7, "findWays", "(LMoleMaps$Plan;I)V"⟩
abbrev cX7_startOrder : ByteArray := prog_9_method_4_code
def yX7_startOrder : MethodName := ⟨RX7, "startOrder", "(II)Z"⟩
abbrev cX7_riskOfOrder : ByteArray := prog_9_method_5_code
def yX7_riskOfOrder : MethodName := ⟨RX7, "riskOfOrder", "(ILMoleMaps$Row;)I"⟩
abbrev cX7_stepOrder : ByteArray := prog_9_method_6_code
def yX7_stepOrder : MethodName := ⟨RX7, "stepOrder", "()Z"⟩
abbrev cX7_swap : ByteArray := prog_9_method_7_code
def yX7_swap : MethodName := ⟨RX7, "swap", "(II)V"⟩
def RX8 : String := "MoleMaps$Row"
def TX8 : u_T := fun k => match k with
  | _ => ("MoleMaps$Row", "cells", "[I", true)
def tyX8 : Nat → FieldType := fun k => match k with
  | _ => .array .int
abbrev wsX80 : List Cond := u_ws RX8 TX8 1
theorem nmX8 : ∀ a, a < 1 → ∀ b, b < 1 → a ≠ b → (TX8 a).2.1 ≠ (TX8 b).2.1 := by decide +kernel
theorem tyX8_ok : ∀ k, k < 1 → parseFieldDescriptor (TX8 k).2.2.1 = some (tyX8 k) := by decide +kernel
abbrev cX8_init : ByteArray := prog_10_method_1_code
def yX8_init : MethodName := ⟨RX8, "<init>", "(I)V"⟩
abbrev cX8_get : ByteArray := prog_10_method_2_code
def yX8_get : MethodName := ⟨RX8, "get", "(I)I"⟩
abbrev cX8_set : ByteArray := prog_10_method_3_code
def yX8_set : MethodName := ⟨RX8, "set", "(II)V"⟩
abbrev cX8_fill : ByteArray := prog_10_method_4_code
def yX8_fill : MethodName := ⟨RX8, "fill", "(I)V"⟩
abbrev cX8_copyFrom : ByteArray := prog_10_method_5_code
def yX8_copyFrom : MethodName := ⟨RX8, "copyFrom", "(LMoleMaps$Row;)V"⟩
abbrev cX8_sum : ByteArray := prog_10_method_6_code
def yX8_sum : MethodName := ⟨RX8, "sum", "()I"⟩
def RX9 : String := "MoleMaps$Table"
def TX9 : u_T := fun k => match k with
  | _ => ("MoleMaps$Table", "lengths", "LMoleMaps$Row;", true)
def tyX9 : Nat → FieldType := fun k => match k with
  | _ => .object "MoleMaps$Row"
abbrev wsX90 : List Cond := u_ws RX9 TX9 1
theorem nmX9 : ∀ a, a < 1 → ∀ b, b < 1 → a ≠ b → (TX9 a).2.1 ≠ (TX9 b).2.1 := by decide +kernel
theorem tyX9_ok : ∀ k, k < 1 → parseFieldDescriptor (TX9 k).2.2.1 = some (tyX9 k) := by decide +kernel
abbrev cX9_init : ByteArray := prog_11_method_1_code
def yX9_init : MethodName := ⟨RX9, "<init>", "()V"⟩
abbrev cX9_clear : ByteArray := prog_11_method_2_code
def yX9_clear : MethodName := ⟨RX9, "clear", "()V"⟩
abbrev cX9_between : ByteArray := prog_11_method_3_code
def yX9_between : MethodName := ⟨RX9, "between", "(II)I"⟩
abbrev cX9_link : ByteArray := prog_11_method_4_code
def yX9_link : MethodName := ⟨RX9, "link", "(III)V"⟩
abbrev cX9_joinWays : ByteArray := prog_11_method_5_code
def yX9_joinWays : MethodName := ⟨RX9, "joinWays", "()V"⟩
def RX10 : String := "MoleMaps"
def TX10 : u_T := fun k => match k with
  | 0 => ("MoleMaps", "page", "LMoleMaps$Page;", true)
  | 1 => ("MoleMaps", "plan", "LMoleMaps$Plan;", true)
  | 2 => ("MoleMaps", "air", "LMoleMaps$Air;", true)
  | 3 => ("MoleMaps", "trial", "LMoleMaps$Air;", true)
  | 4 => ("MoleMaps", "smoke", "LMoleMaps$Table;", true)
  | 5 => ("MoleMaps", "crew", "LMoleMaps$Crew;", true)
  | 6 => ("MoleMaps", "now", "LMoleMaps$Moment;", true)
  | 7 => ("MoleMaps", "kept", "LMoleMaps$Moment;", true)
  | 8 => ("MoleMaps", "dream", "LMoleMaps$Moment;", true)
  | 9 => ("MoleMaps", "draws", "LMoleMaps$Draws;", true)
  | 10 => ("MoleMaps", "rescuers", "LMoleMaps$Rescue;", true)
  | 11 => ("MoleMaps", "minesRead", "I", false)
  | 12 => ("MoleMaps", "doorsDone", "I", false)
  | 13 => ("MoleMaps", "keptMine", "I", false)
  | _ => ("MoleMaps", "keptMen", "I", false)
def tyX10 : Nat → FieldType := fun k => match k with
  | 0 => .object "MoleMaps$Page"
  | 1 => .object "MoleMaps$Plan"
  | 2 => .object "MoleMaps$Air"
  | 3 => .object "MoleMaps$Air"
  | 4 => .object "MoleMaps$Table"
  | 5 => .object "MoleMaps$Crew"
  | 6 => .object "MoleMaps$Moment"
  | 7 => .object "MoleMaps$Moment"
  | 8 => .object "MoleMaps$Moment"
  | 9 => .object "MoleMaps$Draws"
  | 10 => .object "MoleMaps$Rescue"
  | 11 => .int
  | 12 => .int
  | 13 => .int
  | _ => .int
abbrev wsX100 : List Cond := u_ws RX10 TX10 15
theorem nmX10 : ∀ a, a < 15 → ∀ b, b < 15 → a ≠ b → (TX10 a).2.1 ≠ (TX10 b).2.1 := by decide +kernel
theorem tyX10_ok : ∀ k, k < 15 → parseFieldDescriptor (TX10 k).2.2.1 = some (tyX10 k) := by decide +kernel
abbrev cX10_init : ByteArray := prog_1_method_1_code
def yX10_init : MethodName := ⟨RX10, "<init>", "()V"⟩
abbrev cX10_letters : ByteArray := prog_1_method_2_code
def yX10_letters : MethodName := ⟨RX10, "letters", "(J)I"⟩
abbrev cX10_blank : ByteArray := prog_1_method_3_code
def yX10_blank : MethodName := ⟨RX10, "blank", "()I"⟩
abbrev cX10_fault : ByteArray := prog_1_method_4_code
def yX10_fault : MethodName := ⟨RX10, "fault", "()I"⟩
abbrev cX10_mine : ByteArray := prog_1_method_5_code
def yX10_mine : MethodName := ⟨RX10, "mine", "()I"⟩
abbrev cX10_gallery : ByteArray := prog_1_method_6_code
def yX10_gallery : MethodName := ⟨RX10, "gallery", "(II)I"⟩
abbrev cX10_knot : ByteArray := prog_1_method_7_code
def yX10_knot : MethodName := ⟨RX10, "knot", "(II)I"⟩
abbrev cX10_door : ByteArray := prog_1_method_8_code
def yX10_door : MethodName := ⟨RX10, "door", "(IZ)I"⟩
abbrev cX10_turn : ByteArray := prog_1_method_9_code
def yX10_turn : MethodName := ⟨RX10, "turn", "()I"⟩
abbrev cX10_man : ByteArray := prog_1_method_10_code
def yX10_man : MethodName := ⟨RX10, "man", "(II)I"⟩
abbrev cX10_about : ByteArray := prog_1_method_11_code
def yX10_about : MethodName := ⟨RX10, "about", "(II)I"⟩
abbrev cX10_as : ByteArray := prog_1_method_12_code
def yX10_as : MethodName := ⟨RX10, "as", "(II)I"⟩
abbrev cX10_walk : ByteArray := prog_1_method_13_code
def yX10_walk : MethodName := ⟨RX10, "walk", "(II)I"⟩
abbrev cX10_minutes : ByteArray := prog_1_method_14_code
def yX10_minutes : MethodName := ⟨RX10, "minutes", "(I)I"⟩
abbrev cX10_smelt : ByteArray := prog_1_method_15_code
def yX10_smelt : MethodName := ⟨RX10, "smelt", "(II)I"⟩
abbrev cX10_doors : ByteArray := prog_1_method_16_code
def yX10_doors : MethodName := ⟨RX10, "doors", "(II)I"⟩
abbrev cX10_wayOut : ByteArray := prog_1_method_17_code
def yX10_wayOut : MethodName := ⟨RX10, "wayOut", "(I)I"⟩
abbrev cX10_fire : ByteArray := prog_1_method_18_code
def yX10_fire : MethodName := ⟨RX10, "fire", "(II)I"⟩
abbrev cX10_next : ByteArray := prog_1_method_19_code
def yX10_next : MethodName := ⟨RX10, "next", "(II)I"⟩
abbrev cX10_rescue : ByteArray := prog_1_method_20_code
def yX10_rescue : MethodName := ⟨RX10, "rescue", "(III)I"⟩
abbrev cX10_walks : ByteArray := prog_1_method_21_code
def yX10_walks : MethodName := ⟨RX10, "walks", "(III)I"⟩
abbrev cX10_image : ByteArray := prog_1_method_22_code
def yX10_image : MethodName := ⟨RX10, "image", "()I"⟩
abbrev cX10_restore : ByteArray := prog_1_method_23_code
def yX10_restore : MethodName := ⟨RX10, "restore", "()I"⟩
abbrev cX10_count : ByteArray := prog_1_method_24_code
def yX10_count : MethodName := ⟨RX10, "count", "(I)I"⟩
abbrev cX10_digest : ByteArray := prog_1_method_25_code
def yX10_digest : MethodName := ⟨RX10, "digest", "()J"⟩
abbrev cX10_isKnot : ByteArray := prog_1_method_26_code
def yX10_isKnot : MethodName := ⟨RX10, "isKnot", "(I)Z"⟩
abbrev cX10_isKnotSet : ByteArray := prog_1_method_27_code
def yX10_isKnotSet : MethodName := ⟨RX10, "isKnotSet", "(I)Z"⟩
abbrev cX10_bit : ByteArray := prog_1_method_28_code
def yX10_bit : MethodName := ⟨RX10, "bit", "(II)I"⟩
abbrev cX10_windChanges : ByteArray := prog_1_method_29_code
def yX10_windChanges : MethodName := ⟨RX10, "windChanges", "()V"⟩
abbrev cX10_fewestDoors : ByteArray := prog_1_method_30_code
def yX10_fewestDoors : MethodName := ⟨RX10, "fewestDoors", "(I)I"⟩
abbrev cX10_letsBreathe : ByteArray := prog_1_method_31_code
def yX10_letsBreathe : MethodName := ⟨RX10, "letsBreathe", "(II)Z"⟩
abbrev cX10_isNoseTale : ByteArray := prog_1_method_32_code
def yX10_isNoseTale : MethodName := ⟨RX10, "isNoseTale", "(II)Z"⟩
abbrev cX10_possibleFires : ByteArray := prog_1_method_33_code
def yX10_possibleFires : MethodName := ⟨RX10, "possibleFires", "(II)I"⟩
abbrev cX10_firesSmelt : ByteArray := prog_1_method_34_code
def yX10_firesSmelt : MethodName := ⟨RX10, "firesSmelt", "(II)I"⟩
abbrev cX10_dreamWalk : ByteArray := prog_1_method_35_code
def yX10_dreamWalk : MethodName := ⟨RX10, "dreamWalk", "()V"⟩
abbrev cX10_placeOfBit : ByteArray := prog_1_method_36_code
def yX10_placeOfBit : MethodName := ⟨RX10, "placeOfBit", "(II)I"⟩
def RX11 : String := "MoleMapsModel"
def TX11 : u_T := fun k => match k with
  | 0 => ("MoleMapsModel", "page", "[I", true)
  | 1 => ("MoleMapsModel", "pageMany", "I", false)
  | 2 => ("MoleMapsModel", "readRows", "[I", true)
  | 3 => ("MoleMapsModel", "readDraughts", "[I", true)
  | 4 => ("MoleMapsModel", "readMany", "I", false)
  | 5 => ("MoleMapsModel", "readShafts", "I", false)
  | 6 => ("MoleMapsModel", "readKnot", "I", false)
  | 7 => ("MoleMapsModel", "state", "I", false)
  | 8 => ("MoleMapsModel", "galleries", "I", false)
  | 9 => ("MoleMapsModel", "minesRead", "I", false)
  | 10 => ("MoleMapsModel", "moon", "I", false)
  | 11 => ("MoleMapsModel", "time", "I", false)
  | 12 => ("MoleMapsModel", "rows", "[I", true)
  | 13 => ("MoleMapsModel", "draughts", "[I", true)
  | 14 => ("MoleMapsModel", "shut", "I", false)
  | 15 => ("MoleMapsModel", "gas", "[I", true)
  | 16 => ("MoleMapsModel", "heights", "[I", true)
  | 17 => ("MoleMapsModel", "steps", "[I", true)
  | 18 => ("MoleMapsModel", "men", "I", false)
  | 19 => ("MoleMapsModel", "menRows", "[I", true)
  | 20 => ("MoleMapsModel", "smoke", "[I", true)
  | 21 => ("MoleMapsModel", "done", "I", false)
  | 22 => ("MoleMapsModel", "lengths", "[I", true)
  | 23 => ("MoleMapsModel", "order", "[I", true)
  | 24 => ("MoleMapsModel", "bestOrder", "[I", true)
  | 25 => ("MoleMapsModel", "seedNow", "I", false)
  | 26 => ("MoleMapsModel", "savedMen", "[I", true)
  | 27 => ("MoleMapsModel", "savedGas", "[I", true)
  | 28 => ("MoleMapsModel", "keptMine", "I", false)
  | 29 => ("MoleMapsModel", "keptMen", "I", false)
  | 30 => ("MoleMapsModel", "keptShut", "I", false)
  | 31 => ("MoleMapsModel", "keptMoon", "I", false)
  | 32 => ("MoleMapsModel", "keptTime", "I", false)
  | 33 => ("MoleMapsModel", "keptGas", "[I", true)
  | 34 => ("MoleMapsModel", "keptMenRows", "[I", true)
  | _ => ("MoleMapsModel", "hash", "J", false)
def tyX11 : Nat → FieldType := fun k => match k with
  | 0 => .array .int
  | 1 => .int
  | 2 => .array .int
  | 3 => .array .int
  | 4 => .int
  | 5 => .int
  | 6 => .int
  | 7 => .int
  | 8 => .int
  | 9 => .int
  | 10 => .int
  | 11 => .int
  | 12 => .array .int
  | 13 => .array .int
  | 14 => .int
  | 15 => .array .int
  | 16 => .array .int
  | 17 => .array .int
  | 18 => .int
  | 19 => .array .int
  | 20 => .array .int
  | 21 => .int
  | 22 => .array .int
  | 23 => .array .int
  | 24 => .array .int
  | 25 => .int
  | 26 => .array .int
  | 27 => .array .int
  | 28 => .int
  | 29 => .int
  | 30 => .int
  | 31 => .int
  | 32 => .int
  | 33 => .array .int
  | 34 => .array .int
  | _ => .long
abbrev wsX110 : List Cond := u_ws RX11 TX11 36
theorem nmX11 : ∀ a, a < 36 → ∀ b, b < 36 → a ≠ b → (TX11 a).2.1 ≠ (TX11 b).2.1 := by decide +kernel
theorem tyX11_ok : ∀ k, k < 36 → parseFieldDescriptor (TX11 k).2.2.1 = some (tyX11 k) := by decide +kernel
abbrev cX11_init : ByteArray := prog_13_method_1_code
def yX11_init : MethodName := ⟨RX11, "<init>", "()V"⟩
abbrev cX11_in : ByteArray := prog_13_method_2_code
def yX11_in : MethodName := ⟨RX11, "in", "(JJJ)Z"⟩
abbrev cX11_letters : ByteArray := prog_13_method_3_code
def yX11_letters : MethodName := ⟨RX11, "letters", "(J)I"⟩
abbrev cX11_blank : ByteArray := prog_13_method_4_code
def yX11_blank : MethodName := ⟨RX11, "blank", "()I"⟩
abbrev cX11_goGallery : ByteArray := prog_13_method_5_code
def yX11_goGallery : MethodName := ⟨RX11, "goGallery", "(I)Z"⟩
abbrev cX11_go : ByteArray := prog_13_method_6_code
def yX11_go : MethodName := ⟨RX11, "go", "(I)Z"⟩
abbrev cX11_faultOf : ByteArray := prog_13_method_7_code
def yX11_faultOf : MethodName := ⟨RX11, "faultOf", "()I"⟩
abbrev cX11_fault : ByteArray := prog_13_method_8_code
def yX11_fault : MethodName := ⟨RX11, "fault", "()I"⟩
abbrev cX11_lacks : ByteArray := prog_13_method_9_code
def yX11_lacks : MethodName := ⟨RX11, "lacks", "()Z"⟩
abbrev cX11_isGallery : ByteArray := prog_13_method_10_code
def yX11_isGallery : MethodName := ⟨RX11, "isGallery", "(I)Z"⟩
abbrev cX11_isKnot : ByteArray := prog_13_method_11_code
def yX11_isKnot : MethodName := ⟨RX11, "isKnot", "(I)Z"⟩
abbrev cX11_mine : ByteArray := prog_13_method_12_code
def yX11_mine : MethodName := ⟨RX11, "mine", "()I"⟩
abbrev cX11_isOpen : ByteArray := prog_13_method_13_code
def yX11_isOpen : MethodName := ⟨RX11, "isOpen", "(I)Z"⟩
abbrev cX11_otherEnd : ByteArray := prog_13_method_14_code
def yX11_otherEnd : MethodName := ⟨RX11, "otherEnd", "(II)I"⟩
abbrev cX11_shaftHeight : ByteArray := prog_13_method_15_code
def yX11_shaftHeight : MethodName := ⟨RX11, "shaftHeight", "(I)I"⟩
abbrev cX11_laySteps : ByteArray := prog_13_method_16_code
def yX11_laySteps : MethodName := ⟨RX11, "laySteps", "(I)V"⟩
abbrev cX11_heightOf : ByteArray := prog_13_method_17_code
def yX11_heightOf : MethodName := ⟨RX11, "heightOf", "(I)I"⟩
abbrev cX11_layHeights : ByteArray := prog_13_method_18_code
def yX11_layHeights : MethodName := ⟨RX11, "layHeights", "()V"⟩
abbrev cX11_into : ByteArray := prog_13_method_19_code
def yX11_into : MethodName := ⟨RX11, "into", "(I)I"⟩
abbrev cX11_breathes : ByteArray := prog_13_method_20_code
def yX11_breathes : MethodName := ⟨RX11, "breathes", "(I)Z"⟩
abbrev cX11_tellGallery : ByteArray := prog_13_method_21_code
def yX11_tellGallery : MethodName := ⟨RX11, "tellGallery", "(II)I"⟩
abbrev cX11_gallery : ByteArray := prog_13_method_22_code
def yX11_gallery : MethodName := ⟨RX11, "gallery", "(II)I"⟩
abbrev cX11_tellKnot : ByteArray := prog_13_method_23_code
def yX11_tellKnot : MethodName := ⟨RX11, "tellKnot", "(II)I"⟩
abbrev cX11_knot : ByteArray := prog_13_method_24_code
def yX11_knot : MethodName := ⟨RX11, "knot", "(II)I"⟩
abbrev cX11_door : ByteArray := prog_13_method_25_code
def yX11_door : MethodName := ⟨RX11, "door", "(IZ)I"⟩
abbrev cX11_turn : ByteArray := prog_13_method_26_code
def yX11_turn : MethodName := ⟨RX11, "turn", "()I"⟩
abbrev cX11_isMan : ByteArray := prog_13_method_27_code
def yX11_isMan : MethodName := ⟨RX11, "isMan", "(I)Z"⟩
abbrev cX11_man : ByteArray := prog_13_method_28_code
def yX11_man : MethodName := ⟨RX11, "man", "(II)I"⟩
abbrev cX11_bears : ByteArray := prog_13_method_29_code
def yX11_bears : MethodName := ⟨RX11, "bears", "(I)I"⟩
abbrev cX11_tellMan : ByteArray := prog_13_method_30_code
def yX11_tellMan : MethodName := ⟨RX11, "tellMan", "(II)I"⟩
abbrev cX11_about : ByteArray := prog_13_method_31_code
def yX11_about : MethodName := ⟨RX11, "about", "(II)I"⟩
abbrev cX11_as : ByteArray := prog_13_method_32_code
def yX11_as : MethodName := ⟨RX11, "as", "(II)I"⟩
abbrev cX11_walk : ByteArray := prog_13_method_33_code
def yX11_walk : MethodName := ⟨RX11, "walk", "(II)I"⟩
abbrev cX11_minute : ByteArray := prog_13_method_34_code
def yX11_minute : MethodName := ⟨RX11, "minute", "()I"⟩
abbrev cX11_minutes : ByteArray := prog_13_method_35_code
def yX11_minutes : MethodName := ⟨RX11, "minutes", "(I)I"⟩
abbrev cX11_laySmoke : ByteArray := prog_13_method_36_code
def yX11_laySmoke : MethodName := ⟨RX11, "laySmoke", "(I)V"⟩
abbrev cX11_smeltOf : ByteArray := prog_13_method_37_code
def yX11_smeltOf : MethodName := ⟨RX11, "smeltOf", "(II)I"⟩
abbrev cX11_smelt : ByteArray := prog_13_method_38_code
def yX11_smelt : MethodName := ⟨RX11, "smelt", "(II)I"⟩
abbrev cX11_ones : ByteArray := prog_13_method_39_code
def yX11_ones : MethodName := ⟨RX11, "ones", "(I)I"⟩
abbrev cX11_allBreathe : ByteArray := prog_13_method_40_code
def yX11_allBreathe : MethodName := ⟨RX11, "allBreathe", "(I)Z"⟩
abbrev cX11_doors : ByteArray := prog_13_method_41_code
def yX11_doors : MethodName := ⟨RX11, "doors", "(II)I"⟩
abbrev cX11_wayOutOf : ByteArray := prog_13_method_42_code
def yX11_wayOutOf : MethodName := ⟨RX11, "wayOutOf", "(I)I"⟩
abbrev cX11_wayOut : ByteArray := prog_13_method_43_code
def yX11_wayOut : MethodName := ⟨RX11, "wayOut", "(I)I"⟩
abbrev cX11_isNose : ByteArray := prog_13_method_44_code
def yX11_isNose : MethodName := ⟨RX11, "isNose", "(I)Z"⟩
abbrev cX11_areNoses : ByteArray := prog_13_method_45_code
def yX11_areNoses : MethodName := ⟨RX11, "areNoses", "(I)Z"⟩
abbrev cX11_fireOf : ByteArray := prog_13_method_46_code
def yX11_fireOf : MethodName := ⟨RX11, "fireOf", "(II)I"⟩
abbrev cX11_fire : ByteArray := prog_13_method_47_code
def yX11_fire : MethodName := ⟨RX11, "fire", "(II)I"⟩
abbrev cX11_next : ByteArray := prog_13_method_48_code
def yX11_next : MethodName := ⟨RX11, "next", "(II)I"⟩
abbrev cX11_layLengths : ByteArray := prog_13_method_49_code
def yX11_layLengths : MethodName := ⟨RX11, "layLengths", "()V"⟩
abbrev cX11_layRescue : ByteArray := prog_13_method_50_code
def yX11_layRescue : MethodName := ⟨RX11, "layRescue", "(II)I"⟩
abbrev cX11_rescue : ByteArray := prog_13_method_51_code
def yX11_rescue : MethodName := ⟨RX11, "rescue", "(III)I"⟩
abbrev cX11_draw : ByteArray := prog_13_method_52_code
def yX11_draw : MethodName := ⟨RX11, "draw", "(I)I"⟩
abbrev cX11_walkBy : ByteArray := prog_13_method_53_code
def yX11_walkBy : MethodName := ⟨RX11, "walkBy", "(I)V"⟩
abbrev cX11_copy : ByteArray := prog_13_method_54_code
def yX11_copy : MethodName := ⟨RX11, "copy", "([I[I)V"⟩
abbrev cX11_walks : ByteArray := prog_13_method_55_code
def yX11_walks : MethodName := ⟨RX11, "walks", "(III)I"⟩
abbrev cX11_image : ByteArray := prog_13_method_56_code
def yX11_image : MethodName := ⟨RX11, "image", "()I"⟩
abbrev cX11_restore : ByteArray := prog_13_method_57_code
def yX11_restore : MethodName := ⟨RX11, "restore", "()I"⟩
abbrev cX11_countOf : ByteArray := prog_13_method_58_code
def yX11_countOf : MethodName := ⟨RX11, "countOf", "(I)I"⟩
abbrev cX11_count : ByteArray := prog_13_method_59_code
def yX11_count : MethodName := ⟨RX11, "count", "(I)I"⟩
abbrev cX11_say : ByteArray := prog_13_method_60_code
def yX11_say : MethodName := ⟨RX11, "say", "(J)V"⟩
abbrev cX11_sayKnot : ByteArray := prog_13_method_61_code
def yX11_sayKnot : MethodName := ⟨RX11, "sayKnot", "(I)V"⟩
abbrev cX11_digest : ByteArray := prog_13_method_62_code
def yX11_digest : MethodName := ⟨RX11, "digest", "()J"⟩
def RJ6 : String := "java/lang/Integer"
abbrev cJ6_numberOfTrailingZeros_0f7a4 : ByteArray := prog_14_method_48_code
def yJ6_numberOfTrailingZeros_0f7a4 : MethodName := ⟨RJ6, "numberOfTrailingZeros", "(I)I"⟩
abbrev cJ6_bitCount_0f7a4 : ByteArray := prog_14_method_49_code
def yJ6_bitCount_0f7a4 : MethodName := ⟨RJ6, "bitCount", "(I)I"⟩
def RL : String := "MoleMapsLaw"
abbrev cL_law : ByteArray := code
def wsX8_init : List Cond := .code yX8_init cX8_init 2 none :: ([.methodLink RX8 1 objectInit, .instanceMethod objectInit, .code objectInit ⟨#[0xb1]⟩ 1 none, .arrayClass .int, .fieldLink RX8 7 "MoleMaps$Row" "cells" "[I"] ++ wsX80)
def wsX0_init : List Cond := .code yX0_init cX0_init 1 none :: ([.methodLink RX0 3 objectInit, .instanceMethod objectInit, .code objectInit ⟨#[0xb1]⟩ 1 none, .classLink RX0 9 RX8, .instantiable RX8 1, .initialized RX8, .fieldLink RX0 14 "MoleMaps$Air" "height" "LMoleMaps$Row;", .fieldLink RX0 20 "MoleMaps$Air" "into" "LMoleMaps$Row;", .fieldLink RX0 23 "MoleMaps$Air" "nearest" "LMoleMaps$Row;", .methodLink RX0 11 yX8_init, .instanceMethod yX8_init, .code yX8_init cX8_init 2 none, .methodLink RX8 1 objectInit, .arrayClass .int, .fieldLink RX8 7 "MoleMaps$Row" "cells" "[I"] ++ wsX80 ++ wsX00)
def wsX1_init : List Cond := .code yX1_init cX1_init 1 none :: ([.methodLink RX1 3 objectInit, .instanceMethod objectInit, .code objectInit ⟨#[0xb1]⟩ 1 none, .classLink RX1 9 RX8, .instantiable RX8 1, .initialized RX8, .fieldLink RX1 14 "MoleMaps$Crew" "kinds" "LMoleMaps$Row;", .methodLink RX1 11 yX8_init, .instanceMethod yX8_init, .code yX8_init cX8_init 2 none, .methodLink RX8 1 objectInit, .arrayClass .int, .fieldLink RX8 7 "MoleMaps$Row" "cells" "[I"] ++ wsX80 ++ wsX10)
def wsX2_init : List Cond := .code yX2_init cX2_init 1 none :: ([.methodLink RX2 1 objectInit, .instanceMethod objectInit, .code objectInit ⟨#[0xb1]⟩ 1 none])
def wsX3_init : List Cond := .code yX3_init cX3_init 1 none :: ([.methodLink RX3 3 objectInit, .instanceMethod objectInit, .code objectInit ⟨#[0xb1]⟩ 1 none, .classLink RX3 9 RX8, .instantiable RX8 1, .initialized RX8, .fieldLink RX3 14 "MoleMaps$Moment" "gas" "LMoleMaps$Row;", .fieldLink RX3 20 "MoleMaps$Moment" "place" "LMoleMaps$Row;", .methodLink RX3 11 yX8_init, .instanceMethod yX8_init, .code yX8_init cX8_init 2 none, .methodLink RX8 1 objectInit, .arrayClass .int, .fieldLink RX8 7 "MoleMaps$Row" "cells" "[I"] ++ wsX80 ++ wsX30)
def wsX6_init : List Cond := .code yX6_init cX6_init 1 none :: ([.methodLink RX6 3 objectInit, .instanceMethod objectInit, .code objectInit ⟨#[0xb1]⟩ 1 none])
def wsX4_init : List Cond := .code yX4_init cX4_init 1 none :: ([.methodLink RX4 3 objectInit, .instanceMethod objectInit, .code objectInit ⟨#[0xb1]⟩ 1 none, .classLink RX4 9 RX8, .instantiable RX8 1, .initialized RX8, .fieldLink RX4 14 "MoleMaps$Page" "letters" "LMoleMaps$Row;", .classLink RX4 20 RX6, .instantiable RX6 4, .initialized RX6, .fieldLink RX4 23 "MoleMaps$Page" "reader" "LMoleMaps$Reader;", .methodLink RX4 11 yX8_init, .instanceMethod yX8_init, .code yX8_init cX8_init 2 none, .methodLink RX8 1 objectInit, .arrayClass .int, .fieldLink RX8 7 "MoleMaps$Row" "cells" "[I", .instanceMethod yX6_init, .code yX6_init cX6_init 1 none, .methodLink RX6 3 objectInit] ++ wsX80 ++ wsX40 ++ wsX60)
def wsX5_init : List Cond := .code yX5_init cX5_init 1 none :: ([.methodLink RX5 3 objectInit, .instanceMethod objectInit, .code objectInit ⟨#[0xb1]⟩ 1 none, .classLink RX5 9 RX8, .instantiable RX8 1, .initialized RX8, .fieldLink RX5 14 "MoleMaps$Plan" "one" "LMoleMaps$Row;", .fieldLink RX5 20 "MoleMaps$Plan" "two" "LMoleMaps$Row;", .fieldLink RX5 23 "MoleMaps$Plan" "length" "LMoleMaps$Row;", .fieldLink RX5 26 "MoleMaps$Plan" "draught" "LMoleMaps$Row;", .methodLink RX5 11 yX8_init, .instanceMethod yX8_init, .code yX8_init cX8_init 2 none, .methodLink RX8 1 objectInit, .arrayClass .int, .fieldLink RX8 7 "MoleMaps$Row" "cells" "[I"] ++ wsX80 ++ wsX50)
def wsX9_init : List Cond := .code yX9_init cX9_init 1 none :: ([.methodLink RX9 3 objectInit, .instanceMethod objectInit, .code objectInit ⟨#[0xb1]⟩ 1 none, .classLink RX9 9 RX8, .instantiable RX8 1, .initialized RX8, .fieldLink RX9 14 "MoleMaps$Table" "lengths" "LMoleMaps$Row;", .methodLink RX9 11 yX8_init, .instanceMethod yX8_init, .code yX8_init cX8_init 2 none, .methodLink RX8 1 objectInit, .arrayClass .int, .fieldLink RX8 7 "MoleMaps$Row" "cells" "[I"] ++ wsX80 ++ wsX90)
def wsX7_init : List Cond := .code yX7_init cX7_init 1 none :: ([.methodLink RX7 3 objectInit, .instanceMethod objectInit, .code objectInit ⟨#[0xb1]⟩ 1 none, .classLink RX7 9 RX8, .instantiable RX8 1, .initialized RX8, .fieldLink RX7 14 "MoleMaps$Rescue" "best" "LMoleMaps$Row;", .fieldLink RX7 20 "MoleMaps$Rescue" "order" "LMoleMaps$Row;", .classLink RX7 23 RX9, .instantiable RX9 1, .initialized RX9, .fieldLink RX7 26 "MoleMaps$Rescue" "ways" "LMoleMaps$Table;", .methodLink RX7 11 yX8_init, .instanceMethod yX8_init, .code yX8_init cX8_init 2 none, .methodLink RX8 1 objectInit, .arrayClass .int, .fieldLink RX8 7 "MoleMaps$Row" "cells" "[I", .instanceMethod yX9_init, .code yX9_init cX9_init 1 none, .methodLink RX9 3 objectInit, .classLink RX9 9 RX8, .fieldLink RX9 14 "MoleMaps$Table" "lengths" "LMoleMaps$Row;", .methodLink RX9 11 yX8_init] ++ wsX80 ++ wsX70 ++ wsX90)
def wsX10_init_r1 : List Cond := [Cond.methodLink RX10 1 objectInit, Cond.instanceMethod objectInit, Cond.code objectInit ⟨#[0xb1]⟩ 1 none, Cond.classLink RX10 7 RX4, Cond.instantiable RX4 3, Cond.initialized RX4, Cond.fieldLink RX10 10 "MoleMaps" "page" "LMoleMaps$Page;", Cond.classLink RX10 16 RX5, Cond.instantiable RX5 7, Cond.initialized RX5, Cond.fieldLink RX10 19 "MoleMaps" "plan" "LMoleMaps$Plan;", Cond.classLink RX10 23 RX0, Cond.instantiable RX0 4, Cond.initialized RX0, Cond.fieldLink RX10 26 "MoleMaps" "air" "LMoleMaps$Air;", Cond.fieldLink RX10 30 "MoleMaps" "trial" "LMoleMaps$Air;", Cond.classLink RX10 33 RX9, Cond.instantiable RX9 1, Cond.initialized RX9, Cond.fieldLink RX10 36 "MoleMaps" "smoke" "LMoleMaps$Table;", Cond.classLink RX10 40 RX1, Cond.instantiable RX1 2, Cond.initialized RX1, Cond.fieldLink RX10 43 "MoleMaps" "crew" "LMoleMaps$Crew;"]
def wsX10_init_r2 : List Cond := [Cond.classLink RX10 47 RX3, Cond.instantiable RX3 6, Cond.initialized RX3, Cond.fieldLink RX10 50 "MoleMaps" "now" "LMoleMaps$Moment;", Cond.fieldLink RX10 54 "MoleMaps" "kept" "LMoleMaps$Moment;", Cond.fieldLink RX10 57 "MoleMaps" "dream" "LMoleMaps$Moment;", Cond.classLink RX10 60 RX2, Cond.instantiable RX2 1, Cond.initialized RX2, Cond.fieldLink RX10 63 "MoleMaps" "draws" "LMoleMaps$Draws;", Cond.classLink RX10 67 RX7, Cond.instantiable RX7 5, Cond.initialized RX7, Cond.fieldLink RX10 70 "MoleMaps" "rescuers" "LMoleMaps$Rescue;", Cond.fieldLink RX10 74 "MoleMaps" "keptMine" "I", Cond.instanceMethod yX4_init, Cond.code yX4_init cX4_init 1 none, Cond.methodLink RX4 3 objectInit, Cond.classLink RX4 9 RX8, Cond.instantiable RX8 1, Cond.initialized RX8, Cond.fieldLink RX4 14 "MoleMaps$Page" "letters" "LMoleMaps$Row;", Cond.classLink RX4 20 RX6, Cond.instantiable RX6 4]
def wsX10_init_r3 : List Cond := [Cond.initialized RX6, Cond.fieldLink RX4 23 "MoleMaps$Page" "reader" "LMoleMaps$Reader;", Cond.methodLink RX4 11 yX8_init, Cond.instanceMethod yX8_init, Cond.code yX8_init cX8_init 2 none, Cond.methodLink RX8 1 objectInit, Cond.arrayClass .int, Cond.fieldLink RX8 7 "MoleMaps$Row" "cells" "[I", Cond.instanceMethod yX6_init, Cond.code yX6_init cX6_init 1 none, Cond.methodLink RX6 3 objectInit, Cond.instanceMethod yX5_init, Cond.code yX5_init cX5_init 1 none, Cond.methodLink RX5 3 objectInit, Cond.classLink RX5 9 RX8, Cond.fieldLink RX5 14 "MoleMaps$Plan" "one" "LMoleMaps$Row;", Cond.fieldLink RX5 20 "MoleMaps$Plan" "two" "LMoleMaps$Row;", Cond.fieldLink RX5 23 "MoleMaps$Plan" "length" "LMoleMaps$Row;", Cond.fieldLink RX5 26 "MoleMaps$Plan" "draught" "LMoleMaps$Row;", Cond.methodLink RX5 11 yX8_init, Cond.instanceMethod yX0_init, Cond.code yX0_init cX0_init 1 none, Cond.methodLink RX0 3 objectInit, Cond.classLink RX0 9 RX8]
def wsX10_init_r4 : List Cond := [Cond.fieldLink RX0 14 "MoleMaps$Air" "height" "LMoleMaps$Row;", Cond.fieldLink RX0 20 "MoleMaps$Air" "into" "LMoleMaps$Row;", Cond.fieldLink RX0 23 "MoleMaps$Air" "nearest" "LMoleMaps$Row;", Cond.methodLink RX0 11 yX8_init, Cond.instanceMethod yX9_init, Cond.code yX9_init cX9_init 1 none, Cond.methodLink RX9 3 objectInit, Cond.classLink RX9 9 RX8, Cond.fieldLink RX9 14 "MoleMaps$Table" "lengths" "LMoleMaps$Row;", Cond.methodLink RX9 11 yX8_init, Cond.instanceMethod yX1_init, Cond.code yX1_init cX1_init 1 none, Cond.methodLink RX1 3 objectInit, Cond.classLink RX1 9 RX8, Cond.fieldLink RX1 14 "MoleMaps$Crew" "kinds" "LMoleMaps$Row;", Cond.methodLink RX1 11 yX8_init, Cond.instanceMethod yX3_init, Cond.code yX3_init cX3_init 1 none, Cond.methodLink RX3 3 objectInit, Cond.classLink RX3 9 RX8, Cond.fieldLink RX3 14 "MoleMaps$Moment" "gas" "LMoleMaps$Row;", Cond.fieldLink RX3 20 "MoleMaps$Moment" "place" "LMoleMaps$Row;", Cond.methodLink RX3 11 yX8_init, Cond.instanceMethod yX2_init]
def wsX10_init_r5 : List Cond := [Cond.code yX2_init cX2_init 1 none, Cond.methodLink RX2 1 objectInit, Cond.instanceMethod yX7_init, Cond.code yX7_init cX7_init 1 none, Cond.methodLink RX7 3 objectInit, Cond.classLink RX7 9 RX8, Cond.fieldLink RX7 14 "MoleMaps$Rescue" "best" "LMoleMaps$Row;", Cond.fieldLink RX7 20 "MoleMaps$Rescue" "order" "LMoleMaps$Row;", Cond.classLink RX7 23 RX9, Cond.fieldLink RX7 26 "MoleMaps$Rescue" "ways" "LMoleMaps$Table;", Cond.methodLink RX7 11 yX8_init]
def wsX10_init : List Cond := .code yX10_init cX10_init 1 none :: ((wsX10_init_r1 ++ (wsX10_init_r2 ++ (wsX10_init_r3 ++ (wsX10_init_r4 ++ wsX10_init_r5)))) ++ wsX40 ++ wsX100 ++ wsX50 ++ wsX00 ++ wsX90 ++ wsX10 ++ wsX30 ++ wsX20 ++ wsX70 ++ wsX80 ++ wsX60)
def wsX11_init : List Cond := .code yX11_init cX11_init 1 none :: ([.methodLink RX11 1 objectInit, .instanceMethod objectInit, .code objectInit ⟨#[0xb1]⟩ 1 none, .arrayClass .int, .fieldLink RX11 7 "MoleMapsModel" "page" "[I", .fieldLink RX11 13 "MoleMapsModel" "readRows" "[I", .fieldLink RX11 16 "MoleMapsModel" "readDraughts" "[I", .fieldLink RX11 19 "MoleMapsModel" "rows" "[I", .fieldLink RX11 22 "MoleMapsModel" "draughts" "[I", .fieldLink RX11 25 "MoleMapsModel" "gas" "[I", .fieldLink RX11 28 "MoleMapsModel" "heights" "[I", .fieldLink RX11 31 "MoleMapsModel" "steps" "[I", .fieldLink RX11 34 "MoleMapsModel" "menRows" "[I", .fieldLink RX11 37 "MoleMapsModel" "smoke" "[I", .fieldLink RX11 40 "MoleMapsModel" "lengths" "[I", .fieldLink RX11 43 "MoleMapsModel" "order" "[I", .fieldLink RX11 46 "MoleMapsModel" "bestOrder" "[I", .fieldLink RX11 49 "MoleMapsModel" "savedMen" "[I", .fieldLink RX11 52 "MoleMapsModel" "savedGas" "[I", .fieldLink RX11 55 "MoleMapsModel" "keptGas" "[I", .fieldLink RX11 58 "MoleMapsModel" "keptMenRows" "[I", .fieldLink RX11 61 "MoleMapsModel" "keptMine" "I"] ++ wsX110)
def wsL_law_r1 : List Cond := [Cond.classLink RL 7 RX10, Cond.instantiable RX10 15, Cond.initialized RX10, Cond.classLink RL 10 RX11, Cond.instantiable RX11 36, Cond.initialized RX11, Cond.constantLong RL 13 (4294967295), Cond.methodLink RL 9 yX10_init, Cond.instanceMethod yX10_init, Cond.code yX10_init cX10_init 1 none, Cond.methodLink RX10 1 objectInit, Cond.instanceMethod objectInit, Cond.code objectInit ⟨#[0xb1]⟩ 1 none, Cond.classLink RX10 7 RX4, Cond.instantiable RX4 3, Cond.initialized RX4, Cond.fieldLink RX10 10 "MoleMaps" "page" "LMoleMaps$Page;", Cond.classLink RX10 16 RX5, Cond.instantiable RX5 7, Cond.initialized RX5, Cond.fieldLink RX10 19 "MoleMaps" "plan" "LMoleMaps$Plan;", Cond.classLink RX10 23 RX0, Cond.instantiable RX0 4, Cond.initialized RX0]
def wsL_law_r2 : List Cond := [Cond.fieldLink RX10 26 "MoleMaps" "air" "LMoleMaps$Air;", Cond.fieldLink RX10 30 "MoleMaps" "trial" "LMoleMaps$Air;", Cond.classLink RX10 33 RX9, Cond.instantiable RX9 1, Cond.initialized RX9, Cond.fieldLink RX10 36 "MoleMaps" "smoke" "LMoleMaps$Table;", Cond.classLink RX10 40 RX1, Cond.instantiable RX1 2, Cond.initialized RX1, Cond.fieldLink RX10 43 "MoleMaps" "crew" "LMoleMaps$Crew;", Cond.classLink RX10 47 RX3, Cond.instantiable RX3 6, Cond.initialized RX3, Cond.fieldLink RX10 50 "MoleMaps" "now" "LMoleMaps$Moment;", Cond.fieldLink RX10 54 "MoleMaps" "kept" "LMoleMaps$Moment;", Cond.fieldLink RX10 57 "MoleMaps" "dream" "LMoleMaps$Moment;", Cond.classLink RX10 60 RX2, Cond.instantiable RX2 1, Cond.initialized RX2, Cond.fieldLink RX10 63 "MoleMaps" "draws" "LMoleMaps$Draws;", Cond.classLink RX10 67 RX7, Cond.instantiable RX7 5, Cond.initialized RX7, Cond.fieldLink RX10 70 "MoleMaps" "rescuers" "LMoleMaps$Rescue;"]
def wsL_law_r3 : List Cond := [Cond.fieldLink RX10 74 "MoleMaps" "keptMine" "I", Cond.instanceMethod yX4_init, Cond.code yX4_init cX4_init 1 none, Cond.methodLink RX4 3 objectInit, Cond.classLink RX4 9 RX8, Cond.instantiable RX8 1, Cond.initialized RX8, Cond.fieldLink RX4 14 "MoleMaps$Page" "letters" "LMoleMaps$Row;", Cond.classLink RX4 20 RX6, Cond.instantiable RX6 4, Cond.initialized RX6, Cond.fieldLink RX4 23 "MoleMaps$Page" "reader" "LMoleMaps$Reader;", Cond.methodLink RX4 11 yX8_init, Cond.instanceMethod yX8_init, Cond.code yX8_init cX8_init 2 none, Cond.methodLink RX8 1 objectInit, Cond.arrayClass .int, Cond.fieldLink RX8 7 "MoleMaps$Row" "cells" "[I", Cond.instanceMethod yX6_init, Cond.code yX6_init cX6_init 1 none, Cond.methodLink RX6 3 objectInit, Cond.instanceMethod yX5_init, Cond.code yX5_init cX5_init 1 none, Cond.methodLink RX5 3 objectInit]
def wsL_law_r4 : List Cond := [Cond.classLink RX5 9 RX8, Cond.fieldLink RX5 14 "MoleMaps$Plan" "one" "LMoleMaps$Row;", Cond.fieldLink RX5 20 "MoleMaps$Plan" "two" "LMoleMaps$Row;", Cond.fieldLink RX5 23 "MoleMaps$Plan" "length" "LMoleMaps$Row;", Cond.fieldLink RX5 26 "MoleMaps$Plan" "draught" "LMoleMaps$Row;", Cond.methodLink RX5 11 yX8_init, Cond.instanceMethod yX0_init, Cond.code yX0_init cX0_init 1 none, Cond.methodLink RX0 3 objectInit, Cond.classLink RX0 9 RX8, Cond.fieldLink RX0 14 "MoleMaps$Air" "height" "LMoleMaps$Row;", Cond.fieldLink RX0 20 "MoleMaps$Air" "into" "LMoleMaps$Row;", Cond.fieldLink RX0 23 "MoleMaps$Air" "nearest" "LMoleMaps$Row;", Cond.methodLink RX0 11 yX8_init, Cond.instanceMethod yX9_init, Cond.code yX9_init cX9_init 1 none, Cond.methodLink RX9 3 objectInit, Cond.classLink RX9 9 RX8, Cond.fieldLink RX9 14 "MoleMaps$Table" "lengths" "LMoleMaps$Row;", Cond.methodLink RX9 11 yX8_init, Cond.instanceMethod yX1_init, Cond.code yX1_init cX1_init 1 none, Cond.methodLink RX1 3 objectInit, Cond.classLink RX1 9 RX8]
def wsL_law_r5 : List Cond := [Cond.fieldLink RX1 14 "MoleMaps$Crew" "kinds" "LMoleMaps$Row;", Cond.methodLink RX1 11 yX8_init, Cond.instanceMethod yX3_init, Cond.code yX3_init cX3_init 1 none, Cond.methodLink RX3 3 objectInit, Cond.classLink RX3 9 RX8, Cond.fieldLink RX3 14 "MoleMaps$Moment" "gas" "LMoleMaps$Row;", Cond.fieldLink RX3 20 "MoleMaps$Moment" "place" "LMoleMaps$Row;", Cond.methodLink RX3 11 yX8_init, Cond.instanceMethod yX2_init, Cond.code yX2_init cX2_init 1 none, Cond.methodLink RX2 1 objectInit, Cond.instanceMethod yX7_init, Cond.code yX7_init cX7_init 1 none, Cond.methodLink RX7 3 objectInit, Cond.classLink RX7 9 RX8, Cond.fieldLink RX7 14 "MoleMaps$Rescue" "best" "LMoleMaps$Row;", Cond.fieldLink RX7 20 "MoleMaps$Rescue" "order" "LMoleMaps$Row;", Cond.classLink RX7 23 RX9, Cond.fieldLink RX7 26 "MoleMaps$Rescue" "ways" "LMoleMaps$Table;", Cond.methodLink RX7 11 yX8_init, Cond.methodLink RL 12 yX11_init, Cond.instanceMethod yX11_init, Cond.code yX11_init cX11_init 1 none]
def wsL_law_r6 : List Cond := [Cond.methodLink RX11 1 objectInit, Cond.fieldLink RX11 7 "MoleMapsModel" "page" "[I", Cond.fieldLink RX11 13 "MoleMapsModel" "readRows" "[I", Cond.fieldLink RX11 16 "MoleMapsModel" "readDraughts" "[I", Cond.fieldLink RX11 19 "MoleMapsModel" "rows" "[I", Cond.fieldLink RX11 22 "MoleMapsModel" "draughts" "[I", Cond.fieldLink RX11 25 "MoleMapsModel" "gas" "[I", Cond.fieldLink RX11 28 "MoleMapsModel" "heights" "[I", Cond.fieldLink RX11 31 "MoleMapsModel" "steps" "[I", Cond.fieldLink RX11 34 "MoleMapsModel" "menRows" "[I", Cond.fieldLink RX11 37 "MoleMapsModel" "smoke" "[I", Cond.fieldLink RX11 40 "MoleMapsModel" "lengths" "[I", Cond.fieldLink RX11 43 "MoleMapsModel" "order" "[I", Cond.fieldLink RX11 46 "MoleMapsModel" "bestOrder" "[I", Cond.fieldLink RX11 49 "MoleMapsModel" "savedMen" "[I", Cond.fieldLink RX11 52 "MoleMapsModel" "savedGas" "[I", Cond.fieldLink RX11 55 "MoleMapsModel" "keptGas" "[I", Cond.fieldLink RX11 58 "MoleMapsModel" "keptMenRows" "[I", Cond.fieldLink RX11 61 "MoleMapsModel" "keptMine" "I", Cond.methodLink RL 15 yX10_letters, Cond.instanceMethod yX10_letters, Cond.selects RX10 yX10_letters yX10_letters, Cond.code yX10_letters cX10_letters 4 (some .int), Cond.fieldLink RX10 82 "MoleMaps$Page" "length" "I"]
def wsL_law_r7 : List Cond := [Cond.methodLink RX10 78 yX4_lettersIn, Cond.static yX4_lettersIn, Cond.code yX4_lettersIn cX4_lettersIn 5 (some .int), Cond.methodLink RX4 27 yX4_byteOf, Cond.static yX4_byteOf, Cond.code yX4_byteOf cX4_byteOf 3 (some .int), Cond.constantLong RX4 31 (255), Cond.methodLink RX10 85 yX4_append, Cond.instanceMethod yX4_append, Cond.selects RX4 yX4_append yX4_append, Cond.code yX4_append cX4_append 5 none, Cond.fieldLink RX4 33 "MoleMaps$Page" "length" "I", Cond.methodLink RX4 37 yX8_set, Cond.instanceMethod yX8_set, Cond.selects RX8 yX8_set yX8_set, Cond.code yX8_set cX8_set 3 none, Cond.methodLink RL 19 yX11_letters, Cond.instanceMethod yX11_letters, Cond.selects RX11 yX11_letters yX11_letters, Cond.code yX11_letters cX11_letters 9 (some .int), Cond.constantLong RX11 65 (255), Cond.fieldLink RX11 67 "MoleMapsModel" "pageMany" "I", Cond.methodLink RL 20 yX10_blank, Cond.instanceMethod yX10_blank]
def wsL_law_r8 : List Cond := [Cond.selects RX10 yX10_blank yX10_blank, Cond.code yX10_blank cX10_blank 2 (some .int), Cond.methodLink RL 24 yX11_blank, Cond.instanceMethod yX11_blank, Cond.selects RX11 yX11_blank yX11_blank, Cond.code yX11_blank cX11_blank 2 (some .int), Cond.methodLink RL 25 yX10_fault, Cond.instanceMethod yX10_fault, Cond.selects RX10 yX10_fault yX10_fault, Cond.code yX10_fault cX10_fault 1 (some .int), Cond.methodLink RX10 89 yX4_firstFault, Cond.instanceMethod yX4_firstFault, Cond.selects RX4 yX4_firstFault yX4_firstFault, Cond.code yX4_firstFault cX4_firstFault 2 (some .int), Cond.methodLink RX4 41 yX6_start, Cond.instanceMethod yX6_start, Cond.selects RX6 yX6_start yX6_start, Cond.code yX6_start cX6_start 1 none, Cond.fieldLink RX6 11 "MoleMaps$Reader" "due" "I", Cond.fieldLink RX6 15 "MoleMaps$Reader" "galleries" "I", Cond.fieldLink RX6 18 "MoleMaps$Reader" "shafts" "I", Cond.methodLink RX4 44 yX8_get, Cond.instanceMethod yX8_get, Cond.selects RX8 yX8_get yX8_get]
def wsL_law_r9 : List Cond := [Cond.code yX8_get cX8_get 2 (some .int), Cond.methodLink RX4 48 yX6_takes, Cond.instanceMethod yX6_takes, Cond.selects RX6 yX6_takes yX6_takes, Cond.code yX6_takes cX6_takes 2 (some .boolean), Cond.fieldLink RX6 21 "MoleMaps$Reader" "first" "I", Cond.static yX10_isKnot, Cond.code yX10_isKnot cX10_isKnot 1 (some .boolean), Cond.methodLink RX6 28 yX6_takesBreak, Cond.instanceMethod yX6_takesBreak, Cond.selects RX6 yX6_takesBreak yX6_takesBreak, Cond.code yX6_takesBreak cX6_takesBreak 2 (some .boolean), Cond.methodLink RX6 31 yX6_takesShaft, Cond.instanceMethod yX6_takesShaft, Cond.selects RX6 yX6_takesShaft yX6_takesShaft, Cond.code yX6_takesShaft cX6_takesShaft 2 (some .boolean), Cond.static yX10_bit, Cond.code yX10_bit cX10_bit 2 (some .int), Cond.methodLink RL 28 yX11_fault, Cond.instanceMethod yX11_fault, Cond.selects RX11 yX11_fault yX11_fault, Cond.code yX11_fault cX11_fault 1 (some .int), Cond.methodLink RX11 97 yX11_faultOf, Cond.instanceMethod yX11_faultOf]
def wsL_law_r10 : List Cond := [Cond.selects RX11 yX11_faultOf yX11_faultOf, Cond.code yX11_faultOf cX11_faultOf 2 (some .int), Cond.fieldLink RX11 70 "MoleMapsModel" "readMany" "I", Cond.fieldLink RX11 91 "MoleMapsModel" "readShafts" "I", Cond.fieldLink RX11 73 "MoleMapsModel" "state" "I", Cond.methodLink RX11 94 yX11_go, Cond.instanceMethod yX11_go, Cond.selects RX11 yX11_go yX11_go, Cond.code yX11_go cX11_go 4 (some .boolean), Cond.fieldLink RX11 88 "MoleMapsModel" "readKnot" "I", Cond.constantLong RX11 82 (6), Cond.constantLong RX11 76 (9), Cond.methodLink RX11 84 yX11_goGallery, Cond.instanceMethod yX11_goGallery, Cond.selects RX11 yX11_goGallery yX11_goGallery, Cond.code yX11_goGallery cX11_goGallery 4 (some .boolean), Cond.methodLink RX11 78 yX11_in, Cond.static yX11_in, Cond.code yX11_in cX11_in 6 (some .boolean), Cond.methodLink RL 29 yX10_mine, Cond.instanceMethod yX10_mine, Cond.selects RX10 yX10_mine yX10_mine, Cond.code yX10_mine cX10_mine 1 (some .int), Cond.fieldLink RX10 101 "MoleMaps$Crew" "size" "I"]
def wsL_law_r11 : List Cond := [Cond.fieldLink RX10 111 "MoleMaps" "minesRead" "I", Cond.fieldLink RX10 117 "MoleMaps$Plan" "galleries" "I", Cond.methodLink RX10 93 yX4_isMine, Cond.instanceMethod yX4_isMine, Cond.selects RX4 yX4_isMine yX4_isMine, Cond.code yX4_isMine cX4_isMine 1 (some .boolean), Cond.methodLink RX4 52 yX4_firstFault, Cond.methodLink RX4 56 yX6_mayEnd, Cond.instanceMethod yX6_mayEnd, Cond.selects RX6 yX6_mayEnd yX6_mayEnd, Cond.code yX6_mayEnd cX6_mayEnd 1 (some .boolean), Cond.methodLink RX6 34 yJ6_bitCount_0f7a4, Cond.static yJ6_bitCount_0f7a4, Cond.initialized RJ6, Cond.code yJ6_bitCount_0f7a4 cJ6_bitCount_0f7a4 1 (some .int), Cond.constant RJ6 265 (1431655765), Cond.constant RJ6 266 (858993459), Cond.constant RJ6 267 (252645135), Cond.methodLink RX10 97 yX5_readFrom, Cond.instanceMethod yX5_readFrom, Cond.selects RX5 yX5_readFrom yX5_readFrom, Cond.code yX5_readFrom cX5_readFrom 4 none, Cond.fieldLink RX5 29 "MoleMaps$Plan" "galleries" "I", Cond.fieldLink RX5 40 "MoleMaps$Plan" "doors" "I"]
def wsL_law_r12 : List Cond := [Cond.fieldLink RX5 43 "MoleMaps$Page" "letters" "LMoleMaps$Row;", Cond.methodLink RX5 48 yX8_get, Cond.methodLink RX5 52 yX4_digit, Cond.instanceMethod yX4_digit, Cond.selects RX4 yX4_digit yX4_digit, Cond.code yX4_digit cX4_digit 2 (some .int), Cond.methodLink RX5 55 yX8_set, Cond.methodLink RX5 59 yX5_readShafts, Cond.instanceMethod yX5_readShafts, Cond.selects RX5 yX5_readShafts yX5_readShafts, Cond.code yX5_readShafts cX5_readShafts 4 none, Cond.fieldLink RX5 33 "MoleMaps$Plan" "shafts" "I", Cond.fieldLink RX5 66 "MoleMaps$Page" "length" "I", Cond.methodLink RX5 63 yX8_fill, Cond.instanceMethod yX8_fill, Cond.selects RX8 yX8_fill yX8_fill, Cond.code yX8_fill cX8_fill 3 none, Cond.methodLink RX10 104 yX5_allGalleries, Cond.instanceMethod yX5_allGalleries, Cond.selects RX5 yX5_allGalleries yX5_allGalleries, Cond.code yX5_allGalleries cX5_allGalleries 1 (some .int), Cond.methodLink RX10 107 yX3_begin, Cond.instanceMethod yX3_begin, Cond.selects RX3 yX3_begin yX3_begin]
def wsL_law_r13 : List Cond := [Cond.code yX3_begin cX3_begin 2 none, Cond.fieldLink RX3 23 "MoleMaps$Moment" "open" "I", Cond.fieldLink RX3 27 "MoleMaps$Moment" "moon" "Z", Cond.fieldLink RX3 34 "MoleMaps$Moment" "out" "I", Cond.fieldLink RX3 37 "MoleMaps$Moment" "gone" "I", Cond.methodLink RX3 31 yX8_fill, Cond.methodLink RX10 114 yX10_windChanges, Cond.instanceMethod yX10_windChanges, Cond.selects RX10 yX10_windChanges yX10_windChanges, Cond.code yX10_windChanges cX10_windChanges 1 none, Cond.fieldLink RX10 146 "MoleMaps$Moment" "open" "I", Cond.fieldLink RX10 170 "MoleMaps$Moment" "moon" "Z", Cond.methodLink RX10 305 yX0_blow, Cond.instanceMethod yX0_blow, Cond.selects RX0 yX0_blow yX0_blow, Cond.code yX0_blow cX0_blow 5 none, Cond.methodLink RX0 26 yX0_findNearest, Cond.instanceMethod yX0_findNearest, Cond.selects RX0 yX0_findNearest yX0_findNearest, Cond.code yX0_findNearest cX0_findNearest 7 none, Cond.fieldLink RX0 45 "MoleMaps$Plan" "shafts" "I", Cond.fieldLink RX0 51 "MoleMaps$Plan" "galleries" "I", Cond.fieldLink RX0 58 "MoleMaps$Plan" "one" "LMoleMaps$Row;", Cond.fieldLink RX0 61 "MoleMaps$Plan" "two" "LMoleMaps$Row;"]
def wsL_law_r14 : List Cond := [Cond.methodLink RX0 38 yX8_set, Cond.methodLink RX0 30 yX8_get, Cond.methodLink RX0 64 yX0_spread, Cond.instanceMethod yX0_spread, Cond.selects RX0 yX0_spread yX0_spread, Cond.code yX0_spread cX0_spread 4 (some .int), Cond.methodLink RX0 34 yX0_heightOf, Cond.static yX0_heightOf, Cond.code yX0_heightOf cX0_heightOf 6 (some .int), Cond.methodLink RX0 68 yJ6_bitCount_0f7a4, Cond.methodLink RX0 73 yX5_shaftHeight, Cond.instanceMethod yX5_shaftHeight, Cond.selects RX5 yX5_shaftHeight yX5_shaftHeight, Cond.code yX5_shaftHeight cX5_shaftHeight 4 (some .int), Cond.methodLink RX0 42 yX0_findFlows, Cond.instanceMethod yX0_findFlows, Cond.selects RX0 yX0_findFlows yX0_findFlows, Cond.code yX0_findFlows cX0_findFlows 7 none, Cond.fieldLink RX0 77 "MoleMaps$Air" "breathing" "I", Cond.methodLink RX0 80 yX0_lower, Cond.instanceMethod yX0_lower, Cond.selects RX0 yX0_lower yX0_lower, Cond.code yX0_lower cX0_lower 5 (some .int), Cond.methodLink RX10 309 yX0_carrySmoke]
def wsL_law_r15 : List Cond := [Cond.instanceMethod yX0_carrySmoke, Cond.selects RX0 yX0_carrySmoke yX0_carrySmoke, Cond.code yX0_carrySmoke cX0_carrySmoke 5 none, Cond.fieldLink RX0 91 "MoleMaps$Plan" "length" "LMoleMaps$Row;", Cond.methodLink RX0 83 yX9_clear, Cond.instanceMethod yX9_clear, Cond.selects RX9 yX9_clear yX9_clear, Cond.code yX9_clear cX9_clear 2 none, Cond.methodLink RX9 20 yX8_fill, Cond.methodLink RX9 23 yX8_set, Cond.methodLink RX0 88 yX5_otherEnd, Cond.instanceMethod yX5_otherEnd, Cond.selects RX5 yX5_otherEnd yX5_otherEnd, Cond.code yX5_otherEnd cX5_otherEnd 3 (some .int), Cond.methodLink RX0 94 yX9_link, Cond.instanceMethod yX9_link, Cond.selects RX9 yX9_link yX9_link, Cond.code yX9_link cX9_link 5 none, Cond.methodLink RX9 31 yX9_between, Cond.instanceMethod yX9_between, Cond.selects RX9 yX9_between yX9_between, Cond.code yX9_between cX9_between 3 (some .int), Cond.methodLink RX9 27 yX8_get, Cond.methodLink RX0 98 yX9_joinWays]
def wsL_law_r16 : List Cond := [Cond.instanceMethod yX9_joinWays, Cond.selects RX9 yX9_joinWays yX9_joinWays, Cond.code yX9_joinWays cX9_joinWays 6 none, Cond.methodLink RX9 35 yX9_link, Cond.methodLink RL 32 yX11_mine, Cond.instanceMethod yX11_mine, Cond.selects RX11 yX11_mine yX11_mine, Cond.code yX11_mine cX11_mine 2 (some .int), Cond.fieldLink RX11 101 "MoleMapsModel" "galleries" "I", Cond.fieldLink RX11 108 "MoleMapsModel" "shut" "I", Cond.fieldLink RX11 111 "MoleMapsModel" "moon" "I", Cond.fieldLink RX11 114 "MoleMapsModel" "time" "I", Cond.fieldLink RX11 117 "MoleMapsModel" "men" "I", Cond.fieldLink RX11 120 "MoleMapsModel" "minesRead" "I", Cond.methodLink RL 33 yX10_gallery, Cond.instanceMethod yX10_gallery, Cond.selects RX10 yX10_gallery yX10_gallery, Cond.code yX10_gallery cX10_gallery 3 (some .int), Cond.fieldLink RX10 124 "MoleMaps$Plan" "one" "LMoleMaps$Row;", Cond.fieldLink RX10 134 "MoleMaps$Plan" "two" "LMoleMaps$Row;", Cond.fieldLink RX10 137 "MoleMaps$Plan" "length" "LMoleMaps$Row;", Cond.fieldLink RX10 139 "MoleMaps$Plan" "doors" "I", Cond.fieldLink RX10 149 "MoleMaps$Air" "into" "LMoleMaps$Row;", Cond.methodLink RX10 120 yX5_hasGallery]
def wsL_law_r17 : List Cond := [Cond.instanceMethod yX5_hasGallery, Cond.selects RX5 yX5_hasGallery yX5_hasGallery, Cond.code yX5_hasGallery cX5_hasGallery 2 (some .boolean), Cond.methodLink RX10 128 yX8_get, Cond.methodLink RX10 142 yX10_bit, Cond.methodLink RL 37 yX11_gallery, Cond.instanceMethod yX11_gallery, Cond.selects RX11 yX11_gallery yX11_gallery, Cond.code yX11_gallery cX11_gallery 3 (some .int), Cond.methodLink RX11 148 yX11_isGallery, Cond.instanceMethod yX11_isGallery, Cond.selects RX11 yX11_isGallery yX11_isGallery, Cond.code yX11_isGallery cX11_isGallery 2 (some .boolean), Cond.methodLink RX11 151 yX11_tellGallery, Cond.instanceMethod yX11_tellGallery, Cond.selects RX11 yX11_tellGallery yX11_tellGallery, Cond.code yX11_tellGallery cX11_tellGallery 3 (some .int), Cond.methodLink RX11 124 yX11_isOpen, Cond.instanceMethod yX11_isOpen, Cond.selects RX11 yX11_isOpen yX11_isOpen, Cond.code yX11_isOpen cX11_isOpen 2 (some .boolean), Cond.methodLink RX11 145 yX11_layHeights, Cond.instanceMethod yX11_layHeights, Cond.selects RX11 yX11_layHeights yX11_layHeights]
def wsL_law_r18 : List Cond := [Cond.code yX11_layHeights cX11_layHeights 2 none, Cond.methodLink RX11 135 yX11_heightOf, Cond.instanceMethod yX11_heightOf, Cond.selects RX11 yX11_heightOf yX11_heightOf, Cond.code yX11_heightOf cX11_heightOf 6 (some .int), Cond.constant RX11 123 (100000), Cond.methodLink RX11 127 yX11_shaftHeight, Cond.instanceMethod yX11_shaftHeight, Cond.selects RX11 yX11_shaftHeight yX11_shaftHeight, Cond.code yX11_shaftHeight cX11_shaftHeight 2 (some .int), Cond.methodLink RX11 131 yX11_laySteps, Cond.instanceMethod yX11_laySteps, Cond.selects RX11 yX11_laySteps yX11_laySteps, Cond.code yX11_laySteps cX11_laySteps 6 none, Cond.methodLink RX11 142 yX11_into, Cond.instanceMethod yX11_into, Cond.selects RX11 yX11_into yX11_into, Cond.code yX11_into cX11_into 4 (some .int), Cond.methodLink RL 38 yX10_knot, Cond.instanceMethod yX10_knot, Cond.selects RX10 yX10_knot yX10_knot, Cond.code yX10_knot cX10_knot 3 (some .int), Cond.fieldLink RX10 158 "MoleMaps$Plan" "draught" "LMoleMaps$Row;", Cond.fieldLink RX10 161 "MoleMaps$Air" "height" "LMoleMaps$Row;"]
def wsL_law_r19 : List Cond := [Cond.fieldLink RX10 164 "MoleMaps$Air" "breathing" "I", Cond.fieldLink RX10 167 "MoleMaps$Moment" "gas" "LMoleMaps$Row;", Cond.methodLink RX10 152 yX5_isRead, Cond.instanceMethod yX5_isRead, Cond.selects RX5 yX5_isRead yX5_isRead, Cond.code yX5_isRead cX5_isRead 1 (some .boolean), Cond.methodLink RX10 155 yX10_isKnot, Cond.methodLink RL 41 yX11_knot, Cond.instanceMethod yX11_knot, Cond.selects RX11 yX11_knot yX11_knot, Cond.code yX11_knot cX11_knot 3 (some .int), Cond.methodLink RX11 157 yX11_isKnot, Cond.instanceMethod yX11_isKnot, Cond.selects RX11 yX11_isKnot yX11_isKnot, Cond.code yX11_isKnot cX11_isKnot 2 (some .boolean), Cond.methodLink RX11 104 yX11_lacks, Cond.instanceMethod yX11_lacks, Cond.selects RX11 yX11_lacks yX11_lacks, Cond.code yX11_lacks cX11_lacks 1 (some .boolean), Cond.methodLink RX11 160 yX11_tellKnot, Cond.instanceMethod yX11_tellKnot, Cond.selects RX11 yX11_tellKnot yX11_tellKnot, Cond.code yX11_tellKnot cX11_tellKnot 3 (some .int), Cond.methodLink RX11 154 yX11_breathes]
def wsL_law_r20 : List Cond := [Cond.instanceMethod yX11_breathes, Cond.selects RX11 yX11_breathes yX11_breathes, Cond.code yX11_breathes cX11_breathes 4 (some .boolean), Cond.methodLink RX11 138 yX11_otherEnd, Cond.instanceMethod yX11_otherEnd, Cond.selects RX11 yX11_otherEnd yX11_otherEnd, Cond.code yX11_otherEnd cX11_otherEnd 3 (some .int), Cond.methodLink RL 42 yX10_door, Cond.instanceMethod yX10_door, Cond.selects RX10 yX10_door yX10_door, Cond.code yX10_door cX10_door 4 (some .int), Cond.methodLink RL 46 yX11_door, Cond.instanceMethod yX11_door, Cond.selects RX11 yX11_door yX11_door, Cond.code yX11_door cX11_door 4 (some .int), Cond.methodLink RL 47 yX10_turn, Cond.instanceMethod yX10_turn, Cond.selects RX10 yX10_turn yX10_turn, Cond.code yX10_turn cX10_turn 1 (some .int), Cond.methodLink RL 50 yX11_turn, Cond.instanceMethod yX11_turn, Cond.selects RX11 yX11_turn yX11_turn, Cond.code yX11_turn cX11_turn 1 (some .int), Cond.methodLink RL 51 yX10_man]
def wsL_law_r21 : List Cond := [Cond.instanceMethod yX10_man, Cond.selects RX10 yX10_man yX10_man, Cond.code yX10_man cX10_man 4 (some .int), Cond.fieldLink RX10 177 "MoleMaps$Crew" "kinds" "LMoleMaps$Row;", Cond.fieldLink RX10 184 "MoleMaps$Moment" "place" "LMoleMaps$Row;", Cond.methodLink RX10 174 yX1_isKind, Cond.static yX1_isKind, Cond.code yX1_isKind cX1_isKind 1 (some .boolean), Cond.methodLink RX10 180 yX8_set, Cond.methodLink RL 54 yX11_man, Cond.instanceMethod yX11_man, Cond.selects RX11 yX11_man yX11_man, Cond.code yX11_man cX11_man 3 (some .int), Cond.constantLong RX11 163 (4), Cond.methodLink RL 55 yX10_about, Cond.instanceMethod yX10_about, Cond.selects RX10 yX10_about yX10_about, Cond.code yX10_about cX10_about 3 (some .int), Cond.fieldLink RX10 190 "MoleMaps$Moment" "out" "I", Cond.methodLink RX10 187 yX1_has, Cond.instanceMethod yX1_has, Cond.selects RX1 yX1_has yX1_has, Cond.code yX1_has cX1_has 2 (some .boolean), Cond.fieldLink RX1 20 "MoleMaps$Crew" "size" "I"]
def wsL_law_r22 : List Cond := [Cond.methodLink RX10 193 yX1_bears, Cond.instanceMethod yX1_bears, Cond.selects RX1 yX1_bears yX1_bears, Cond.code yX1_bears cX1_bears 2 (some .int), Cond.methodLink RX1 24 yX8_get, Cond.methodLink RL 58 yX11_about, Cond.instanceMethod yX11_about, Cond.selects RX11 yX11_about yX11_about, Cond.code yX11_about cX11_about 3 (some .int), Cond.methodLink RX11 170 yX11_isMan, Cond.instanceMethod yX11_isMan, Cond.selects RX11 yX11_isMan yX11_isMan, Cond.code yX11_isMan cX11_isMan 2 (some .boolean), Cond.methodLink RX11 173 yX11_tellMan, Cond.instanceMethod yX11_tellMan, Cond.selects RX11 yX11_tellMan yX11_tellMan, Cond.code yX11_tellMan cX11_tellMan 3 (some .int), Cond.constantLong RX11 165 (2), Cond.methodLink RX11 167 yX11_bears, Cond.instanceMethod yX11_bears, Cond.selects RX11 yX11_bears yX11_bears, Cond.code yX11_bears cX11_bears 3 (some .int), Cond.methodLink RL 59 yX10_as, Cond.instanceMethod yX10_as]
def wsL_law_r23 : List Cond := [Cond.selects RX10 yX10_as yX10_as, Cond.code yX10_as cX10_as 3 (some .int), Cond.methodLink RX10 196 yX1_isOf, Cond.instanceMethod yX1_isOf, Cond.selects RX1 yX1_isOf yX1_isOf, Cond.code yX1_isOf cX1_isOf 4 (some .boolean), Cond.methodLink RL 62 yX11_as, Cond.instanceMethod yX11_as, Cond.selects RX11 yX11_as yX11_as, Cond.code yX11_as cX11_as 5 (some .int), Cond.methodLink RL 63 yX10_walk, Cond.instanceMethod yX10_walk, Cond.selects RX10 yX10_walk yX10_walk, Cond.code yX10_walk cX10_walk 6 (some .int), Cond.methodLink RX10 200 yX5_isAt, Cond.instanceMethod yX5_isAt, Cond.selects RX5 yX5_isAt yX5_isAt, Cond.code yX5_isAt cX5_isAt 3 (some .boolean), Cond.methodLink RX10 203 yX5_otherEnd, Cond.methodLink RL 66 yX11_walk, Cond.instanceMethod yX11_walk, Cond.selects RX11 yX11_walk yX11_walk, Cond.code yX11_walk cX11_walk 5 (some .int), Cond.methodLink RL 67 yX10_minutes]
def wsL_law_r24 : List Cond := [Cond.instanceMethod yX10_minutes, Cond.selects RX10 yX10_minutes yX10_minutes, Cond.code yX10_minutes cX10_minutes 4 (some .int), Cond.methodLink RX10 206 yJ6_bitCount_0f7a4, Cond.methodLink RX10 211 yX3_passMinute, Cond.instanceMethod yX3_passMinute, Cond.selects RX3 yX3_passMinute yX3_passMinute, Cond.code yX3_passMinute cX3_passMinute 5 none, Cond.methodLink RX3 52 Lib.Math.min.name, Cond.static Lib.Math.min.name, Cond.initialized "java/lang/Math", Cond.code Lib.Math.min.name Lib.Math.min.code 2 (some .int), Cond.fieldLink RX3 61 "MoleMaps$Crew" "size" "I", Cond.methodLink RX3 48 yX8_get, Cond.methodLink RX3 57 yX8_set, Cond.methodLink RX3 66 yX1_bears, Cond.methodLink RL 71 yX11_minutes, Cond.instanceMethod yX11_minutes, Cond.selects RX11 yX11_minutes yX11_minutes, Cond.code yX11_minutes cX11_minutes 5 (some .int), Cond.constantLong RX11 176 (60), Cond.methodLink RX11 178 yX11_minute, Cond.instanceMethod yX11_minute, Cond.selects RX11 yX11_minute yX11_minute]
def wsL_law_r25 : List Cond := [Cond.code yX11_minute cX11_minute 3 (some .int), Cond.methodLink RL 72 yX10_smelt, Cond.instanceMethod yX10_smelt, Cond.selects RX10 yX10_smelt yX10_smelt, Cond.code yX10_smelt cX10_smelt 3 (some .int), Cond.methodLink RX10 215 yX9_between, Cond.methodLink RL 75 yX11_smelt, Cond.instanceMethod yX11_smelt, Cond.selects RX11 yX11_smelt yX11_smelt, Cond.code yX11_smelt cX11_smelt 3 (some .int), Cond.methodLink RX11 184 yX11_smeltOf, Cond.instanceMethod yX11_smeltOf, Cond.selects RX11 yX11_smeltOf yX11_smeltOf, Cond.code yX11_smeltOf cX11_smeltOf 3 (some .int), Cond.methodLink RX11 181 yX11_laySmoke, Cond.instanceMethod yX11_laySmoke, Cond.selects RX11 yX11_laySmoke yX11_laySmoke, Cond.code yX11_laySmoke cX11_laySmoke 6 none, Cond.methodLink RL 76 yX10_doors, Cond.instanceMethod yX10_doors, Cond.selects RX10 yX10_doors yX10_doors, Cond.code yX10_doors cX10_doors 4 (some .int), Cond.fieldLink RX10 221 "MoleMaps" "doorsDone" "I", Cond.methodLink RX10 218 yX10_isKnotSet]
def wsL_law_r26 : List Cond := [Cond.static yX10_isKnotSet, Cond.code yX10_isKnotSet cX10_isKnotSet 1 (some .boolean), Cond.methodLink RX10 224 yX10_fewestDoors, Cond.instanceMethod yX10_fewestDoors, Cond.selects RX10 yX10_fewestDoors yX10_fewestDoors, Cond.code yX10_fewestDoors cX10_fewestDoors 6 (some .int), Cond.methodLink RX10 313 yX10_letsBreathe, Cond.instanceMethod yX10_letsBreathe, Cond.selects RX10 yX10_letsBreathe yX10_letsBreathe, Cond.code yX10_letsBreathe cX10_letsBreathe 3 (some .boolean), Cond.methodLink RL 79 yX11_doors, Cond.instanceMethod yX11_doors, Cond.selects RX11 yX11_doors yX11_doors, Cond.code yX11_doors cX11_doors 7 (some .int), Cond.constantLong RX11 187 (127), Cond.fieldLink RX11 189 "MoleMapsModel" "done" "I", Cond.methodLink RX11 192 yX11_ones, Cond.static yX11_ones, Cond.code yX11_ones cX11_ones 3 (some .int), Cond.methodLink RX11 195 yX11_allBreathe, Cond.instanceMethod yX11_allBreathe, Cond.selects RX11 yX11_allBreathe yX11_allBreathe, Cond.code yX11_allBreathe cX11_allBreathe 4 (some .boolean), Cond.methodLink RL 80 yX10_wayOut]
def wsL_law_r27 : List Cond := [Cond.instanceMethod yX10_wayOut, Cond.selects RX10 yX10_wayOut yX10_wayOut, Cond.code yX10_wayOut cX10_wayOut 5 (some .int), Cond.methodLink RX10 227 yX5_isShaft, Cond.instanceMethod yX5_isShaft, Cond.selects RX5 yX5_isShaft yX5_isShaft, Cond.code yX5_isShaft cX5_isShaft 2 (some .boolean), Cond.methodLink RX10 230 yX0_firstInto, Cond.instanceMethod yX0_firstInto, Cond.selects RX0 yX0_firstInto yX0_firstInto, Cond.code yX0_firstInto cX0_firstInto 4 (some .int), Cond.methodLink RL 83 yX11_wayOut, Cond.instanceMethod yX11_wayOut, Cond.selects RX11 yX11_wayOut yX11_wayOut, Cond.code yX11_wayOut cX11_wayOut 2 (some .int), Cond.methodLink RX11 198 yX11_wayOutOf, Cond.instanceMethod yX11_wayOutOf, Cond.selects RX11 yX11_wayOutOf yX11_wayOutOf, Cond.code yX11_wayOutOf cX11_wayOutOf 6 (some .int), Cond.methodLink RL 84 yX10_fire, Cond.instanceMethod yX10_fire, Cond.selects RX10 yX10_fire yX10_fire, Cond.code yX10_fire cX10_fire 3 (some .int), Cond.methodLink RX10 234 yX10_isNoseTale]
def wsL_law_r28 : List Cond := [Cond.instanceMethod yX10_isNoseTale, Cond.selects RX10 yX10_isNoseTale yX10_isNoseTale, Cond.code yX10_isNoseTale cX10_isNoseTale 3 (some .boolean), Cond.methodLink RX10 316 yX1_noses, Cond.instanceMethod yX1_noses, Cond.selects RX1 yX1_noses yX1_noses, Cond.code yX1_noses cX1_noses 3 (some .int), Cond.methodLink RX1 28 yX1_isOf, Cond.methodLink RX10 237 yX10_possibleFires, Cond.instanceMethod yX10_possibleFires, Cond.selects RX10 yX10_possibleFires yX10_possibleFires, Cond.code yX10_possibleFires cX10_possibleFires 6 (some .int), Cond.methodLink RX10 240 yX10_firesSmelt, Cond.instanceMethod yX10_firesSmelt, Cond.selects RX10 yX10_firesSmelt yX10_firesSmelt, Cond.code yX10_firesSmelt cX10_firesSmelt 6 (some .int), Cond.methodLink RL 87 yX11_fire, Cond.instanceMethod yX11_fire, Cond.selects RX11 yX11_fire yX11_fire, Cond.code yX11_fire cX11_fire 3 (some .int), Cond.methodLink RX11 204 yX11_areNoses, Cond.instanceMethod yX11_areNoses, Cond.selects RX11 yX11_areNoses yX11_areNoses, Cond.code yX11_areNoses cX11_areNoses 4 (some .boolean)]
def wsL_law_r29 : List Cond := [Cond.methodLink RX11 201 yX11_isNose, Cond.instanceMethod yX11_isNose, Cond.selects RX11 yX11_isNose yX11_isNose, Cond.code yX11_isNose cX11_isNose 2 (some .boolean), Cond.methodLink RX11 207 yX11_fireOf, Cond.instanceMethod yX11_fireOf, Cond.selects RX11 yX11_fireOf yX11_fireOf, Cond.code yX11_fireOf cX11_fireOf 8 (some .int), Cond.methodLink RL 88 yX10_next, Cond.instanceMethod yX10_next, Cond.selects RX10 yX10_next yX10_next, Cond.code yX10_next cX10_next 9 (some .int), Cond.methodLink RX10 243 Lib.Math.max.name, Cond.static Lib.Math.max.name, Cond.code Lib.Math.max.name Lib.Math.max.code 2 (some .int), Cond.methodLink RL 91 yX11_next, Cond.instanceMethod yX11_next, Cond.selects RX11 yX11_next yX11_next, Cond.code yX11_next cX11_next 9 (some .int), Cond.methodLink RL 92 yX10_rescue, Cond.instanceMethod yX10_rescue, Cond.selects RX10 yX10_rescue yX10_rescue, Cond.code yX10_rescue cX10_rescue 6 (some .int), Cond.fieldLink RX10 252 "MoleMaps$Rescue" "leastRisk" "I"]
def wsL_law_r30 : List Cond := [Cond.fieldLink RX10 255 "MoleMaps$Rescue" "best" "LMoleMaps$Row;", Cond.methodLink RX10 248 yX7_findBest, Cond.instanceMethod yX7_findBest, Cond.selects RX7 yX7_findBest yX7_findBest, Cond.code yX7_findBest cX7_findBest 8 none, Cond.fieldLink RX7 30 "MoleMaps$Rescue" "leastRisk" "I", Cond.fieldLink RX7 34 "MoleMaps$Moment" "open" "I", Cond.fieldLink RX7 47 "MoleMaps$Moment" "gas" "LMoleMaps$Row;", Cond.methodLink RX7 39 yX7_findWays, Cond.instanceMethod yX7_findWays, Cond.selects RX7 yX7_findWays yX7_findWays, Cond.code yX7_findWays cX7_findWays 4 none, Cond.fieldLink RX7 65 "MoleMaps$Plan" "galleries" "I", Cond.fieldLink RX7 74 "MoleMaps$Plan" "one" "LMoleMaps$Row;", Cond.fieldLink RX7 81 "MoleMaps$Plan" "two" "LMoleMaps$Row;", Cond.fieldLink RX7 84 "MoleMaps$Plan" "length" "LMoleMaps$Row;", Cond.methodLink RX7 62 yX9_clear, Cond.methodLink RX7 77 yX8_get, Cond.methodLink RX7 87 yX9_link, Cond.methodLink RX7 91 yX9_joinWays, Cond.methodLink RX7 43 yX7_startOrder, Cond.instanceMethod yX7_startOrder, Cond.selects RX7 yX7_startOrder yX7_startOrder, Cond.code yX7_startOrder cX7_startOrder 4 (some .boolean)]
def wsL_law_r31 : List Cond := [Cond.fieldLink RX7 94 "MoleMaps$Rescue" "size" "I", Cond.methodLink RX7 97 yX9_between, Cond.methodLink RX7 100 yX8_set, Cond.methodLink RX7 50 yX7_riskOfOrder, Cond.instanceMethod yX7_riskOfOrder, Cond.selects RX7 yX7_riskOfOrder yX7_riskOfOrder, Cond.code yX7_riskOfOrder cX7_riskOfOrder 8 (some .int), Cond.methodLink RX7 54 yX8_copyFrom, Cond.instanceMethod yX8_copyFrom, Cond.selects RX8 yX8_copyFrom yX8_copyFrom, Cond.code yX8_copyFrom cX8_copyFrom 3 none, Cond.methodLink RX8 13 yX8_get, Cond.methodLink RX7 58 yX7_stepOrder, Cond.instanceMethod yX7_stepOrder, Cond.selects RX7 yX7_stepOrder yX7_stepOrder, Cond.code yX7_stepOrder cX7_stepOrder 5 (some .boolean), Cond.methodLink RX7 104 yX7_swap, Cond.instanceMethod yX7_swap, Cond.selects RX7 yX7_swap yX7_swap, Cond.code yX7_swap cX7_swap 4 none, Cond.methodLink RL 96 yX11_rescue, Cond.instanceMethod yX11_rescue, Cond.selects RX11 yX11_rescue yX11_rescue, Cond.code yX11_rescue cX11_rescue 5 (some .int)]
def wsL_law_r32 : List Cond := [Cond.constantLong RX11 213 (10), Cond.constantLong RX11 215 (14), Cond.methodLink RX11 217 yX11_layRescue, Cond.instanceMethod yX11_layRescue, Cond.selects RX11 yX11_layRescue yX11_layRescue, Cond.code yX11_layRescue cX11_layRescue 13 (some .int), Cond.methodLink RX11 210 yX11_layLengths, Cond.instanceMethod yX11_layLengths, Cond.selects RX11 yX11_layLengths yX11_layLengths, Cond.code yX11_layLengths cX11_layLengths 4 none, Cond.methodLink RL 97 yX10_walks, Cond.instanceMethod yX10_walks, Cond.selects RX10 yX10_walks yX10_walks, Cond.code yX10_walks cX10_walks 5 (some .int), Cond.fieldLink RX10 262 "MoleMaps$Draws" "seed" "I", Cond.methodLink RX10 258 yX3_copyFrom, Cond.instanceMethod yX3_copyFrom, Cond.selects RX3 yX3_copyFrom yX3_copyFrom, Cond.code yX3_copyFrom cX3_copyFrom 2 none, Cond.methodLink RX3 40 yX8_copyFrom, Cond.methodLink RX10 265 yX10_dreamWalk, Cond.instanceMethod yX10_dreamWalk, Cond.selects RX10 yX10_dreamWalk yX10_dreamWalk, Cond.code yX10_dreamWalk cX10_dreamWalk 5 none]
def wsL_law_r33 : List Cond := [Cond.methodLink RX10 319 yX2_draw, Cond.instanceMethod yX2_draw, Cond.selects RX2 yX2_draw yX2_draw, Cond.code yX2_draw cX2_draw 2 (some .int), Cond.constantLong RX2 9 (1103515245), Cond.fieldLink RX2 11 "MoleMaps$Draws" "seed" "I", Cond.constantLong RX2 15 (12345), Cond.constantLong RX2 17 (2147483648), Cond.constant RX2 19 (65536), Cond.methodLink RX10 322 yX5_galleriesAt, Cond.instanceMethod yX5_galleriesAt, Cond.selects RX5 yX5_galleriesAt yX5_galleriesAt, Cond.code yX5_galleriesAt cX5_galleriesAt 5 (some .int), Cond.methodLink RX5 68 yX5_isAt, Cond.methodLink RX10 325 yX10_placeOfBit, Cond.static yX10_placeOfBit, Cond.code yX10_placeOfBit cX10_placeOfBit 4 (some .int), Cond.methodLink RX10 328 yJ6_numberOfTrailingZeros_0f7a4, Cond.static yJ6_numberOfTrailingZeros_0f7a4, Cond.code yJ6_numberOfTrailingZeros_0f7a4 cJ6_numberOfTrailingZeros_0f7a4 2 (some .int), Cond.constant RJ6 264 (65536), Cond.methodLink RX10 268 yX8_sum, Cond.instanceMethod yX8_sum, Cond.selects RX8 yX8_sum yX8_sum]
def wsL_law_r34 : List Cond := [Cond.code yX8_sum cX8_sum 3 (some .int), Cond.methodLink RL 100 yX11_walks, Cond.instanceMethod yX11_walks, Cond.selects RX11 yX11_walks yX11_walks, Cond.code yX11_walks cX11_walks 8 (some .int), Cond.constantLong RX11 233 (3), Cond.fieldLink RX11 222 "MoleMapsModel" "seedNow" "I", Cond.methodLink RX11 235 yX11_copy, Cond.static yX11_copy, Cond.code yX11_copy cX11_copy 3 none, Cond.methodLink RX11 230 yX11_draw, Cond.instanceMethod yX11_draw, Cond.selects RX11 yX11_draw yX11_draw, Cond.code yX11_draw cX11_draw 2 (some .int), Cond.constantLong RX11 220 (1103515245), Cond.constantLong RX11 225 (12345), Cond.constantLong RX11 227 (2147483647), Cond.constant RX11 229 (65536), Cond.methodLink RX11 239 yX11_walkBy, Cond.instanceMethod yX11_walkBy, Cond.selects RX11 yX11_walkBy yX11_walkBy, Cond.code yX11_walkBy cX11_walkBy 6 none, Cond.methodLink RL 101 yX10_image, Cond.instanceMethod yX10_image]
def wsL_law_r35 : List Cond := [Cond.selects RX10 yX10_image yX10_image, Cond.code yX10_image cX10_image 1 (some .int), Cond.fieldLink RX10 271 "MoleMaps" "keptMen" "I", Cond.fieldLink RX10 274 "MoleMaps$Moment" "gone" "I", Cond.methodLink RL 104 yX11_image, Cond.instanceMethod yX11_image, Cond.selects RX11 yX11_image yX11_image, Cond.code yX11_image cX11_image 1 (some .int), Cond.fieldLink RX11 242 "MoleMapsModel" "keptMen" "I", Cond.fieldLink RX11 245 "MoleMapsModel" "keptShut" "I", Cond.fieldLink RX11 248 "MoleMapsModel" "keptMoon" "I", Cond.fieldLink RX11 251 "MoleMapsModel" "keptTime" "I", Cond.methodLink RL 105 yX10_restore, Cond.instanceMethod yX10_restore, Cond.selects RX10 yX10_restore yX10_restore, Cond.code yX10_restore cX10_restore 1 (some .int), Cond.methodLink RL 108 yX11_restore, Cond.instanceMethod yX11_restore, Cond.selects RX11 yX11_restore yX11_restore, Cond.code yX11_restore cX11_restore 1 (some .int), Cond.methodLink RL 109 yX10_count, Cond.instanceMethod yX10_count, Cond.selects RX10 yX10_count yX10_count, Cond.code yX10_count cX10_count 2 (some .int)]
def wsL_law_r36 : List Cond := [Cond.fieldLink RX10 277 "MoleMaps$Plan" "shafts" "I", Cond.methodLink RL 112 yX11_count, Cond.instanceMethod yX11_count, Cond.selects RX11 yX11_count yX11_count, Cond.code yX11_count cX11_count 2 (some .int), Cond.methodLink RX11 254 yX11_countOf, Cond.instanceMethod yX11_countOf, Cond.selects RX11 yX11_countOf yX11_countOf, Cond.code yX11_countOf cX11_countOf 5 (some .int), Cond.methodLink RL 113 yX10_digest, Cond.instanceMethod yX10_digest, Cond.selects RX10 yX10_digest yX10_digest, Cond.code yX10_digest cX10_digest 5 (some .long), Cond.constantLong RX10 280 (659), Cond.constantLong RX10 282 (31), Cond.fieldLink RX10 299 "MoleMaps$Page" "letters" "LMoleMaps$Row;", Cond.methodLink RX10 284 yX10_gallery, Cond.methodLink RX10 287 yX10_knot, Cond.methodLink RX10 290 yX10_smelt, Cond.methodLink RX10 293 yX10_wayOut, Cond.methodLink RX10 296 yX10_about, Cond.methodLink RX10 302 yX10_count, Cond.methodLink RL 117 yX11_digest, Cond.instanceMethod yX11_digest]
def wsL_law_r37 : List Cond := [Cond.selects RX11 yX11_digest yX11_digest, Cond.code yX11_digest cX11_digest 3 (some .long), Cond.constantLong RX11 267 (659), Cond.fieldLink RX11 259 "MoleMapsModel" "hash" "J", Cond.methodLink RX11 263 yX11_say, Cond.instanceMethod yX11_say, Cond.selects RX11 yX11_say yX11_say, Cond.code yX11_say cX11_say 3 none, Cond.constantLong RX11 257 (31), Cond.methodLink RX11 269 yX11_sayKnot, Cond.instanceMethod yX11_sayKnot, Cond.selects RX11 yX11_sayKnot yX11_sayKnot, Cond.code yX11_sayKnot cX11_sayKnot 3 none]
def wsL_law : List Cond := (wsL_law_r1 ++ (wsL_law_r2 ++ (wsL_law_r3 ++ (wsL_law_r4 ++ (wsL_law_r5 ++ (wsL_law_r6 ++ (wsL_law_r7 ++ (wsL_law_r8 ++ (wsL_law_r9 ++ (wsL_law_r10 ++ (wsL_law_r11 ++ (wsL_law_r12 ++ (wsL_law_r13 ++ (wsL_law_r14 ++ (wsL_law_r15 ++ (wsL_law_r16 ++ (wsL_law_r17 ++ (wsL_law_r18 ++ (wsL_law_r19 ++ (wsL_law_r20 ++ (wsL_law_r21 ++ (wsL_law_r22 ++ (wsL_law_r23 ++ (wsL_law_r24 ++ (wsL_law_r25 ++ (wsL_law_r26 ++ (wsL_law_r27 ++ (wsL_law_r28 ++ (wsL_law_r29 ++ (wsL_law_r30 ++ (wsL_law_r31 ++ (wsL_law_r32 ++ (wsL_law_r33 ++ (wsL_law_r34 ++ (wsL_law_r35 ++ (wsL_law_r36 ++ wsL_law_r37)))))))))))))))))))))))))))))))))))) ++ wsX100 ++ wsX110 ++ wsX40 ++ wsX50 ++ wsX00 ++ wsX90 ++ wsX10 ++ wsX30 ++ wsX20 ++ wsX70 ++ wsX80 ++ wsX60 ++ ([] : List Cond)

def lt_ch : List (List Cond) := [k2_sels lw_privs, tables_1_1, tables_1_2, tables_1_3, tables_1_4, tables_1_5]
theorem ltc_0 : ∀ w ∈ k2_sels lw_privs, w ∈ lw_tbl := fun _ h => List.mem_append_left _ h
theorem ltc_1 : ∀ w ∈ tables_1_1, w ∈ lw_tbl := fun _ h => List.mem_append_right _ (List.mem_append_left _ h)
theorem ltc_2 : ∀ w ∈ tables_1_2, w ∈ lw_tbl := fun _ h => List.mem_append_right _ (List.mem_append_right _ (List.mem_append_left _ h))
theorem ltc_3 : ∀ w ∈ tables_1_3, w ∈ lw_tbl := fun _ h => List.mem_append_right _ (List.mem_append_right _ (List.mem_append_right _ (List.mem_append_left _ h)))
theorem ltc_4 : ∀ w ∈ tables_1_4, w ∈ lw_tbl := fun _ h => List.mem_append_right _ (List.mem_append_right _ (List.mem_append_right _ (List.mem_append_right _ (List.mem_append_left _ h))))
theorem ltc_5 : ∀ w ∈ tables_1_5, w ∈ lw_tbl := fun _ h => List.mem_append_right _ (List.mem_append_right _ (List.mem_append_right _ (List.mem_append_right _ (List.mem_append_right _ (h)))))
theorem lt_cons {c : List Cond} {l : List (List Cond)} (h1 : ∀ w ∈ c, w ∈ lw_tbl) (h2 : ∀ x ∈ l, ∀ w ∈ x, w ∈ lw_tbl) : ∀ x ∈ c :: l, ∀ w ∈ x, w ∈ lw_tbl := fun x hx w hw => (List.mem_cons.mp hx).elim (fun e => h1 w (e ▸ hw)) (fun h => h2 x h w hw)
theorem lt_ch_in : ∀ c ∈ lt_ch, ∀ w ∈ c, w ∈ lw_tbl := (lt_cons ltc_0 (lt_cons ltc_1 (lt_cons ltc_2 (lt_cons ltc_3 (lt_cons ltc_4 (lt_cons ltc_5 (fun _ h => absurd h List.not_mem_nil)))))))
def lt_lk (p : Nat × Nat) : Option Cond := match lt_ch[p.1]? with
  | some c => c[p.2]?
  | none => none
theorem goodIn_t (ws : List Cond) (ps : List (Nat × Nat)) (hp : ws = ps.filterMap lt_lk) : ∀ w ∈ ws, w ∈ lw_tbl := by
  intro w hw
  rw [hp] at hw
  obtain ⟨p, -, hq⟩ := List.mem_filterMap.mp hw
  unfold lt_lk at hq
  split at hq
  · rename_i c hc
    exact lt_ch_in c (List.mem_of_getElem? hc) w (List.mem_of_getElem? hq)
  · cases hq
theorem wl_app {a b t : List Cond} (ha : ∀ w ∈ a, w ∈ t) (hb : ∀ w ∈ b, w ∈ t) : ∀ w ∈ a ++ b, w ∈ t := fun w h => (List.mem_append.mp h).elim (ha w) (hb w)
set_option maxRecDepth 20000 in
theorem wsL_law_r1_in : ∀ w ∈ wsL_law_r1, w ∈ lw_tbl := goodIn_t _ [(1, 15), (1, 16), (1, 1), (3, 222), (3, 223), (1, 12), (5, 115), (1, 17), (1, 18), (1, 19), (1, 20), (1, 21), (1, 22), (1, 23), (1, 24), (1, 2), (2, 7), (1, 73), (1, 74), (1, 5), (2, 8), (1, 119), (1, 120), (1, 6)] (by decide +kernel)
set_option maxRecDepth 20000 in
theorem wsL_law_r2_in : ∀ w ∈ wsL_law_r2, w ∈ lw_tbl := goodIn_t _ [(2, 9), (2, 10), (1, 143), (1, 144), (1, 7), (2, 11), (1, 155), (1, 156), (1, 8), (2, 12), (1, 173), (1, 174), (1, 9), (2, 13), (2, 14), (2, 15), (1, 208), (1, 209), (1, 10), (2, 16), (1, 219), (1, 220), (1, 11), (2, 17)] (by decide +kernel)
set_option maxRecDepth 20000 in
theorem wsL_law_r3_in : ∀ w ∈ wsL_law_r3, w ∈ lw_tbl := goodIn_t _ [(2, 20), (1, 26), (1, 27), (1, 28), (1, 29), (1, 30), (1, 3), (1, 59), (1, 40), (1, 41), (1, 4), (1, 65), (1, 31), (1, 32), (1, 33), (1, 34), (1, 39), (1, 35), (1, 43), (1, 44), (1, 45), (1, 76), (1, 77), (1, 78)] (by decide +kernel)
set_option maxRecDepth 20000 in
theorem wsL_law_r4_in : ∀ w ∈ wsL_law_r4, w ∈ lw_tbl := goodIn_t _ [(1, 79), (1, 85), (1, 89), (1, 93), (1, 99), (1, 80), (1, 122), (1, 123), (1, 124), (1, 125), (1, 127), (1, 129), (1, 133), (1, 126), (1, 146), (1, 147), (1, 148), (1, 149), (1, 151), (1, 150), (1, 158), (1, 159), (1, 160), (1, 161)] (by decide +kernel)
set_option maxRecDepth 20000 in
theorem wsL_law_r5_in : ∀ w ∈ wsL_law_r5, w ∈ lw_tbl := goodIn_t _ [(1, 163), (1, 162), (1, 176), (1, 177), (1, 178), (1, 179), (1, 186), (1, 189), (1, 180), (1, 211), (1, 212), (1, 213), (1, 222), (1, 223), (1, 224), (1, 225), (1, 229), (1, 233), (1, 227), (1, 235), (1, 226), (3, 224), (3, 225), (3, 226)] (by decide +kernel)
set_option maxRecDepth 20000 in
theorem wsL_law_r6_in : ∀ w ∈ wsL_law_r6, w ∈ lw_tbl := goodIn_t _ [(3, 227), (3, 228), (3, 230), (3, 231), (4, 0), (4, 1), (4, 3), (4, 4), (4, 5), (4, 7), (4, 8), (4, 10), (4, 11), (4, 12), (4, 14), (4, 15), (4, 21), (4, 22), (4, 16), (2, 53), (2, 54), (2, 55), (2, 56), (1, 62)] (by decide +kernel)
set_option maxRecDepth 20000 in
theorem wsL_law_r7_in : ∀ w ∈ wsL_law_r7, w ∈ lw_tbl := goodIn_t _ [(2, 57), (2, 58), (2, 59), (2, 60), (2, 61), (2, 62), (2, 63), (2, 64), (2, 65), (2, 66), (2, 67), (1, 63), (2, 68), (2, 69), (2, 70), (2, 71), (4, 97), (4, 98), (4, 99), (4, 100), (4, 101), (3, 229), (2, 72), (2, 73)] (by decide +kernel)
set_option maxRecDepth 20000 in
theorem wsL_law_r8_in : ∀ w ∈ wsL_law_r8, w ∈ lw_tbl := goodIn_t _ [(2, 74), (2, 75), (4, 102), (4, 103), (4, 104), (4, 105), (2, 76), (2, 77), (2, 78), (2, 79), (2, 80), (2, 81), (2, 82), (2, 83), (2, 84), (2, 85), (2, 86), (2, 87), (1, 46), (1, 48), (1, 49), (2, 88), (2, 89), (2, 90)] (by decide +kernel)
set_option maxRecDepth 20000 in
theorem wsL_law_r9_in : ∀ w ∈ wsL_law_r9, w ∈ lw_tbl := goodIn_t _ [(2, 91), (2, 92), (2, 93), (2, 94), (2, 95), (1, 47), (2, 97), (2, 98), (2, 99), (2, 101), (0, 0), (2, 102), (2, 103), (2, 105), (0, 1), (2, 106), (2, 108), (2, 109), (4, 106), (4, 107), (4, 108), (4, 109), (4, 110), (4, 112)] (by decide +kernel)
set_option maxRecDepth 20000 in
theorem wsL_law_r10_in : ∀ w ∈ wsL_law_r10, w ∈ lw_tbl := goodIn_t _ [(0, 19), (4, 113), (3, 232), (3, 233), (3, 235), (4, 114), (4, 116), (0, 20), (4, 117), (3, 234), (4, 126), (4, 122), (4, 118), (4, 120), (0, 21), (4, 121), (4, 123), (4, 124), (4, 125), (2, 110), (2, 111), (2, 112), (2, 113), (1, 167)] (by decide +kernel)
set_option maxRecDepth 20000 in
theorem wsL_law_r11_in : ∀ w ∈ wsL_law_r11, w ∈ lw_tbl := goodIn_t _ [(2, 18), (1, 84), (2, 114), (2, 115), (2, 116), (2, 117), (2, 118), (2, 119), (2, 120), (2, 121), (2, 122), (2, 123), (2, 124), (1, 13), (2, 125), (2, 126), (2, 127), (2, 128), (2, 129), (2, 130), (2, 131), (2, 132), (1, 81), (1, 97)] (by decide +kernel)
set_option maxRecDepth 20000 in
theorem wsL_law_r12_in : ∀ w ∈ wsL_law_r12, w ∈ lw_tbl := goodIn_t _ [(1, 60), (2, 133), (2, 134), (2, 135), (2, 136), (2, 137), (2, 138), (2, 139), (2, 141), (0, 2), (2, 142), (1, 102), (1, 64), (2, 143), (2, 144), (2, 145), (2, 146), (2, 147), (2, 148), (2, 149), (2, 150), (2, 151), (2, 152), (2, 153)] (by decide +kernel)
set_option maxRecDepth 20000 in
theorem wsL_law_r13_in : ∀ w ∈ wsL_law_r13, w ∈ lw_tbl := goodIn_t _ [(2, 154), (1, 181), (1, 184), (1, 191), (1, 193), (2, 155), (2, 156), (2, 158), (0, 3), (2, 159), (1, 183), (1, 185), (2, 160), (2, 161), (2, 162), (2, 163), (2, 164), (2, 166), (0, 4), (2, 167), (1, 101), (1, 83), (1, 87), (1, 91)] (by decide +kernel)
set_option maxRecDepth 20000 in
theorem wsL_law_r14_in : ∀ w ∈ wsL_law_r14, w ∈ lw_tbl := goodIn_t _ [(2, 168), (2, 170), (2, 171), (2, 173), (0, 5), (2, 174), (2, 175), (2, 176), (2, 177), (2, 178), (2, 179), (2, 180), (2, 181), (2, 182), (2, 183), (2, 185), (0, 6), (2, 186), (1, 131), (2, 187), (2, 189), (0, 7), (2, 190), (2, 191)] (by decide +kernel)
set_option maxRecDepth 20000 in
theorem wsL_law_r15_in : ∀ w ∈ wsL_law_r15, w ∈ lw_tbl := goodIn_t _ [(2, 192), (2, 193), (2, 194), (1, 96), (2, 195), (2, 196), (2, 197), (2, 198), (2, 199), (2, 200), (2, 201), (2, 202), (2, 203), (2, 204), (2, 205), (2, 206), (2, 207), (2, 208), (2, 209), (2, 210), (2, 211), (2, 212), (2, 213), (2, 214)] (by decide +kernel)
set_option maxRecDepth 20000 in
theorem wsL_law_r16_in : ∀ w ∈ wsL_law_r16, w ∈ lw_tbl := goodIn_t _ [(2, 215), (2, 216), (2, 217), (2, 218), (4, 127), (4, 128), (4, 129), (4, 130), (3, 236), (4, 2), (3, 238), (3, 239), (4, 6), (3, 237), (2, 219), (2, 220), (2, 221), (2, 222), (1, 88), (1, 92), (1, 95), (1, 98), (1, 130), (2, 223)] (by decide +kernel)
set_option maxRecDepth 20000 in
theorem wsL_law_r17_in : ∀ w ∈ wsL_law_r17, w ∈ lw_tbl := goodIn_t _ [(2, 224), (2, 225), (2, 226), (2, 227), (2, 228), (4, 131), (4, 132), (4, 133), (4, 134), (4, 135), (4, 137), (0, 22), (4, 138), (4, 139), (4, 141), (0, 23), (4, 142), (4, 143), (4, 145), (0, 24), (4, 146), (4, 147), (4, 149), (0, 25)] (by decide +kernel)
set_option maxRecDepth 20000 in
theorem wsL_law_r18_in : ∀ w ∈ wsL_law_r18, w ∈ lw_tbl := goodIn_t _ [(4, 150), (4, 151), (4, 153), (0, 26), (4, 154), (4, 163), (4, 155), (4, 157), (0, 27), (4, 158), (4, 159), (4, 161), (0, 28), (4, 162), (4, 164), (4, 166), (0, 29), (4, 167), (2, 229), (2, 230), (2, 231), (2, 232), (1, 100), (1, 128)] (by decide +kernel)
set_option maxRecDepth 20000 in
theorem wsL_law_r19_in : ∀ w ∈ wsL_law_r19, w ∈ lw_tbl := goodIn_t _ [(1, 132), (1, 188), (2, 233), (2, 234), (2, 235), (2, 236), (2, 237), (4, 168), (4, 169), (4, 170), (4, 171), (4, 172), (4, 174), (0, 30), (4, 175), (4, 176), (4, 178), (0, 31), (4, 179), (4, 180), (4, 182), (0, 32), (4, 183), (4, 184)] (by decide +kernel)
set_option maxRecDepth 20000 in
theorem wsL_law_r20_in : ∀ w ∈ wsL_law_r20, w ∈ lw_tbl := goodIn_t _ [(4, 186), (0, 33), (4, 187), (4, 188), (4, 190), (0, 34), (4, 191), (2, 238), (2, 239), (3, 0), (3, 1), (4, 192), (4, 193), (4, 194), (4, 195), (3, 2), (3, 3), (3, 4), (3, 5), (4, 196), (4, 197), (4, 198), (4, 199), (3, 6)] (by decide +kernel)
set_option maxRecDepth 20000 in
theorem wsL_law_r21_in : ∀ w ∈ wsL_law_r21, w ∈ lw_tbl := goodIn_t _ [(3, 7), (3, 8), (3, 9), (1, 164), (1, 190), (3, 10), (3, 11), (3, 12), (3, 13), (4, 200), (4, 201), (4, 202), (4, 203), (4, 204), (3, 14), (3, 15), (3, 16), (3, 17), (1, 192), (3, 18), (3, 19), (3, 20), (3, 21), (1, 165)] (by decide +kernel)
set_option maxRecDepth 20000 in
theorem wsL_law_r22_in : ∀ w ∈ wsL_law_r22, w ∈ lw_tbl := goodIn_t _ [(3, 22), (3, 23), (3, 24), (3, 25), (3, 26), (4, 205), (4, 206), (4, 207), (4, 208), (4, 209), (4, 211), (0, 35), (4, 212), (4, 213), (4, 215), (0, 36), (4, 216), (4, 217), (4, 218), (4, 220), (0, 37), (4, 221), (3, 27), (3, 28)] (by decide +kernel)
set_option maxRecDepth 20000 in
theorem wsL_law_r23_in : ∀ w ∈ wsL_law_r23, w ∈ lw_tbl := goodIn_t _ [(3, 29), (3, 30), (3, 31), (3, 32), (3, 33), (3, 34), (4, 222), (4, 223), (4, 224), (4, 225), (3, 35), (3, 36), (3, 37), (3, 38), (3, 39), (3, 40), (3, 41), (3, 42), (3, 43), (4, 226), (4, 227), (4, 228), (4, 229), (3, 44)] (by decide +kernel)
set_option maxRecDepth 20000 in
theorem wsL_law_r24_in : ∀ w ∈ wsL_law_r24, w ∈ lw_tbl := goodIn_t _ [(3, 45), (3, 46), (3, 47), (3, 48), (3, 49), (3, 50), (3, 51), (3, 52), (3, 55), (3, 56), (1, 14), (3, 57), (1, 166), (3, 54), (3, 58), (3, 59), (4, 230), (4, 231), (4, 232), (4, 233), (4, 234), (4, 235), (4, 237), (0, 38)] (by decide +kernel)
set_option maxRecDepth 20000 in
theorem wsL_law_r25_in : ∀ w ∈ wsL_law_r25, w ∈ lw_tbl := goodIn_t _ [(4, 238), (3, 60), (3, 61), (3, 62), (3, 63), (3, 64), (4, 239), (5, 0), (5, 1), (5, 2), (5, 3), (5, 5), (0, 39), (5, 6), (5, 7), (5, 9), (0, 40), (5, 10), (3, 65), (3, 66), (3, 67), (3, 68), (2, 19), (3, 69)] (by decide +kernel)
set_option maxRecDepth 20000 in
theorem wsL_law_r26_in : ∀ w ∈ wsL_law_r26, w ∈ lw_tbl := goodIn_t _ [(3, 70), (3, 71), (3, 72), (3, 74), (0, 8), (3, 75), (3, 76), (3, 78), (0, 9), (3, 79), (5, 11), (5, 12), (5, 13), (5, 14), (5, 15), (4, 9), (5, 16), (5, 17), (5, 18), (5, 19), (5, 21), (0, 41), (5, 22), (3, 80)] (by decide +kernel)
set_option maxRecDepth 20000 in
theorem wsL_law_r27_in : ∀ w ∈ wsL_law_r27, w ∈ lw_tbl := goodIn_t _ [(3, 81), (3, 82), (3, 83), (3, 84), (3, 85), (3, 86), (3, 87), (3, 89), (3, 90), (3, 91), (3, 92), (5, 23), (5, 24), (5, 25), (5, 26), (5, 27), (5, 29), (0, 42), (5, 30), (3, 93), (3, 94), (3, 95), (3, 96), (3, 97)] (by decide +kernel)
set_option maxRecDepth 20000 in
theorem wsL_law_r28_in : ∀ w ∈ wsL_law_r28, w ∈ lw_tbl := goodIn_t _ [(3, 99), (0, 10), (3, 100), (3, 101), (3, 102), (3, 103), (3, 104), (3, 105), (3, 106), (3, 108), (0, 11), (3, 109), (3, 110), (3, 112), (0, 12), (3, 113), (5, 31), (5, 32), (5, 33), (5, 34), (5, 35), (5, 37), (0, 43), (5, 38)] (by decide +kernel)
set_option maxRecDepth 20000 in
theorem wsL_law_r29_in : ∀ w ∈ wsL_law_r29, w ∈ lw_tbl := goodIn_t _ [(5, 39), (5, 41), (0, 44), (5, 42), (5, 43), (5, 45), (0, 45), (5, 46), (3, 114), (3, 115), (3, 116), (3, 117), (3, 118), (3, 119), (3, 120), (5, 47), (5, 48), (5, 49), (5, 50), (3, 121), (3, 122), (3, 123), (3, 124), (1, 232)] (by decide +kernel)
set_option maxRecDepth 20000 in
theorem wsL_law_r30_in : ∀ w ∈ wsL_law_r30, w ∈ lw_tbl := goodIn_t _ [(1, 230), (3, 125), (3, 126), (3, 127), (3, 128), (1, 231), (1, 182), (1, 187), (3, 129), (3, 131), (0, 13), (3, 132), (1, 82), (1, 86), (1, 90), (1, 94), (3, 133), (3, 135), (3, 136), (3, 137), (3, 138), (3, 140), (0, 14), (3, 141)] (by decide +kernel)
set_option maxRecDepth 20000 in
theorem wsL_law_r31_in : ∀ w ∈ wsL_law_r31, w ∈ lw_tbl := goodIn_t _ [(1, 234), (3, 142), (3, 143), (3, 144), (3, 146), (0, 15), (3, 147), (3, 148), (3, 149), (3, 150), (3, 151), (3, 152), (3, 153), (3, 155), (0, 16), (3, 156), (3, 157), (3, 159), (0, 17), (3, 160), (5, 51), (5, 52), (5, 53), (5, 54)] (by decide +kernel)
set_option maxRecDepth 20000 in
theorem wsL_law_r32_in : ∀ w ∈ wsL_law_r32, w ∈ lw_tbl := goodIn_t _ [(5, 55), (5, 56), (5, 57), (5, 59), (0, 46), (5, 60), (5, 61), (5, 63), (0, 47), (5, 64), (3, 161), (3, 162), (3, 163), (3, 164), (1, 215), (3, 165), (3, 166), (3, 167), (3, 168), (3, 169), (3, 170), (3, 172), (0, 18), (3, 173)] (by decide +kernel)
set_option maxRecDepth 20000 in
theorem wsL_law_r33_in : ∀ w ∈ wsL_law_r33, w ∈ lw_tbl := goodIn_t _ [(3, 174), (3, 175), (3, 176), (3, 177), (3, 178), (1, 214), (3, 179), (3, 180), (3, 181), (3, 182), (3, 183), (3, 184), (3, 185), (3, 186), (3, 187), (3, 188), (3, 189), (3, 190), (3, 191), (3, 192), (3, 193), (3, 194), (3, 195), (3, 196)] (by decide +kernel)
set_option maxRecDepth 20000 in
theorem wsL_law_r34_in : ∀ w ∈ wsL_law_r34, w ∈ lw_tbl := goodIn_t _ [(3, 197), (5, 65), (5, 66), (5, 67), (5, 68), (5, 69), (4, 13), (5, 70), (5, 71), (5, 72), (5, 73), (5, 75), (0, 48), (5, 76), (5, 77), (5, 78), (5, 79), (5, 80), (5, 81), (5, 83), (0, 49), (5, 84), (3, 198), (3, 199)] (by decide +kernel)
set_option maxRecDepth 20000 in
theorem wsL_law_r35_in : ∀ w ∈ wsL_law_r35, w ∈ lw_tbl := goodIn_t _ [(3, 200), (3, 201), (2, 21), (1, 194), (5, 85), (5, 86), (5, 87), (5, 88), (4, 17), (4, 18), (4, 19), (4, 20), (3, 202), (3, 203), (3, 204), (3, 205), (5, 89), (5, 90), (5, 91), (5, 92), (3, 206), (3, 207), (3, 208), (3, 209)] (by decide +kernel)
set_option maxRecDepth 20000 in
theorem wsL_law_r36_in : ∀ w ∈ wsL_law_r36, w ∈ lw_tbl := goodIn_t _ [(1, 103), (5, 93), (5, 94), (5, 95), (5, 96), (5, 97), (5, 99), (0, 50), (5, 100), (3, 210), (3, 211), (3, 212), (3, 213), (3, 214), (3, 215), (1, 61), (3, 216), (3, 217), (3, 218), (3, 219), (3, 220), (3, 221), (5, 101), (5, 102)] (by decide +kernel)
set_option maxRecDepth 20000 in
theorem wsL_law_r37_in : ∀ w ∈ wsL_law_r37, w ∈ lw_tbl := goodIn_t _ [(5, 103), (5, 104), (5, 105), (4, 23), (5, 106), (5, 108), (0, 51), (5, 109), (5, 110), (5, 111), (5, 113), (0, 52), (5, 114)] (by decide +kernel)
