theorem goodIn_r {big : List Cond} (ws : List Cond) (ps : List Nat) (hp : ws = ps.filterMap (fun i => big[i]?)) (h : ws.all goodWord = true) : GoodIn big ws := by
  intro w hw
  have h1 := List.all_eq_true.mp h w hw
  rw [hp] at hw
  obtain ⟨i, -, hi⟩ := List.mem_filterMap.mp hw
  have hm : w ∈ big := by first | exact List.mem_of_getElem? hi | exact List.getElem?_mem hi
  exact ⟨hm, good_of_word h1⟩
def RX0 : String := "MoleMaps$Air"
def TX0 : u_T := fun k => match k with
  | 0 => ("MoleMaps$Air", "height", "LMoleMaps$Row;", true)
  | 1 => ("MoleMaps$Air", "into", "LMoleMaps$Row;", true)
  | 2 => ("MoleMaps$Air", "breathing", "I", false)
  | _ => ("MoleMaps$Air", "nearest", "LMoleMaps$Row;", true)
def tyX0 : Nat → FieldType := fun k => match k with
  | 0 => .object "MoleMaps$Row"
  | 1 => .object "MoleMaps$Row"
  | 2 => .int
  | _ => .object "MoleMaps$Row"
abbrev wsX00 : List Cond := u_ws RX0 TX0 4
theorem nmX0 : ∀ a, a < 4 → ∀ b, b < 4 → a ≠ b → (TX0 a).2.1 ≠ (TX0 b).2.1 := by decide +kernel
theorem tyX0_ok : ∀ k, k < 4 → parseFieldDescriptor (TX0 k).2.2.1 = some (tyX0 k) := by decide +kernel
abbrev cX0_init : ByteArray := prog_2_method_1_code
def yX0_init : MethodName := ⟨RX0, "<init>", "()V"⟩
def RX1 : String := "MoleMaps$Crew"
def TX1 : u_T := fun k => match k with
  | 0 => ("MoleMaps$Crew", "kinds", "LMoleMaps$Row;", true)
  | _ => ("MoleMaps$Crew", "size", "I", false)
def tyX1 : Nat → FieldType := fun k => match k with
  | 0 => .object "MoleMaps$Row"
  | _ => .int
abbrev wsX10 : List Cond := u_ws RX1 TX1 2
theorem nmX1 : ∀ a, a < 2 → ∀ b, b < 2 → a ≠ b → (TX1 a).2.1 ≠ (TX1 b).2.1 := by decide +kernel
theorem tyX1_ok : ∀ k, k < 2 → parseFieldDescriptor (TX1 k).2.2.1 = some (tyX1 k) := by decide +kernel
abbrev cX1_init : ByteArray := prog_3_method_1_code
def yX1_init : MethodName := ⟨RX1, "<init>", "()V"⟩
def RX2 : String := "MoleMaps$Draws"
def TX2 : u_T := fun k => match k with
  | _ => ("MoleMaps$Draws", "seed", "I", false)
def tyX2 : Nat → FieldType := fun k => match k with
  | _ => .int
abbrev wsX20 : List Cond := u_ws RX2 TX2 1
theorem tyX2_ok : ∀ k, k < 1 → parseFieldDescriptor (TX2 k).2.2.1 = some (tyX2 k) := by decide +kernel
abbrev cX2_init : ByteArray := prog_4_method_1_code
def yX2_init : MethodName := ⟨RX2, "<init>", "()V"⟩
def RX3 : String := "MoleMaps$Moment"
def TX3 : u_T := fun k => match k with
  | 0 => ("MoleMaps$Moment", "open", "I", false)
  | 1 => ("MoleMaps$Moment", "moon", "Z", false)
  | 2 => ("MoleMaps$Moment", "gas", "LMoleMaps$Row;", true)
  | 3 => ("MoleMaps$Moment", "place", "LMoleMaps$Row;", true)
  | 4 => ("MoleMaps$Moment", "out", "I", false)
  | _ => ("MoleMaps$Moment", "gone", "I", false)
def tyX3 : Nat → FieldType := fun k => match k with
  | 0 => .int
  | 1 => .boolean
  | 2 => .object "MoleMaps$Row"
  | 3 => .object "MoleMaps$Row"
  | 4 => .int
  | _ => .int
abbrev wsX30 : List Cond := u_ws RX3 TX3 6
theorem nmX3 : ∀ a, a < 6 → ∀ b, b < 6 → a ≠ b → (TX3 a).2.1 ≠ (TX3 b).2.1 := by decide +kernel
theorem tyX3_ok : ∀ k, k < 6 → parseFieldDescriptor (TX3 k).2.2.1 = some (tyX3 k) := by decide +kernel
abbrev cX3_init : ByteArray := prog_5_method_1_code
def yX3_init : MethodName := ⟨RX3, "<init>", "()V"⟩
def RX4 : String := "MoleMaps$Page"
def TX4 : u_T := fun k => match k with
  | 0 => ("MoleMaps$Page", "letters", "LMoleMaps$Row;", true)
  | 1 => ("MoleMaps$Page", "length", "I", false)
  | _ => ("MoleMaps$Page", "reader", "LMoleMaps$Reader;", true)
def tyX4 : Nat → FieldType := fun k => match k with
  | 0 => .object "MoleMaps$Row"
  | 1 => .int
  | _ => .object "MoleMaps$Reader"
abbrev wsX40 : List Cond := u_ws RX4 TX4 3
theorem nmX4 : ∀ a, a < 3 → ∀ b, b < 3 → a ≠ b → (TX4 a).2.1 ≠ (TX4 b).2.1 := by decide +kernel
theorem tyX4_ok : ∀ k, k < 3 → parseFieldDescriptor (TX4 k).2.2.1 = some (tyX4 k) := by decide +kernel
abbrev cX4_init : ByteArray := prog_6_method_1_code
def yX4_init : MethodName := ⟨RX4, "<init>", "()V"⟩
def RX5 : String := "MoleMaps$Plan"
def TX5 : u_T := fun k => match k with
  | 0 => ("MoleMaps$Plan", "galleries", "I", false)
  | 1 => ("MoleMaps$Plan", "one", "LMoleMaps$Row;", true)
  | 2 => ("MoleMaps$Plan", "two", "LMoleMaps$Row;", true)
  | 3 => ("MoleMaps$Plan", "length", "LMoleMaps$Row;", true)
  | 4 => ("MoleMaps$Plan", "doors", "I", false)
  | 5 => ("MoleMaps$Plan", "draught", "LMoleMaps$Row;", true)
  | _ => ("MoleMaps$Plan", "shafts", "I", false)
def tyX5 : Nat → FieldType := fun k => match k with
  | 0 => .int
  | 1 => .object "MoleMaps$Row"
  | 2 => .object "MoleMaps$Row"
  | 3 => .object "MoleMaps$Row"
  | 4 => .int
  | 5 => .object "MoleMaps$Row"
  | _ => .int
abbrev wsX50 : List Cond := u_ws RX5 TX5 7
theorem nmX5 : ∀ a, a < 7 → ∀ b, b < 7 → a ≠ b → (TX5 a).2.1 ≠ (TX5 b).2.1 := by decide +kernel
theorem tyX5_ok : ∀ k, k < 7 → parseFieldDescriptor (TX5 k).2.2.1 = some (tyX5 k) := by decide +kernel
abbrev cX5_init : ByteArray := prog_7_method_1_code
def yX5_init : MethodName := ⟨RX5, "<init>", "()V"⟩
def RX6 : String := "MoleMaps$Reader"
def TX6 : u_T := fun k => match k with
  | 0 => ("MoleMaps$Reader", "due", "I", false)
  | 1 => ("MoleMaps$Reader", "first", "I", false)
  | 2 => ("MoleMaps$Reader", "galleries", "I", false)
  | _ => ("MoleMaps$Reader", "shafts", "I", false)
def tyX6 : Nat → FieldType := fun k => match k with
  | 0 => .int
  | 1 => .int
  | 2 => .int
  | _ => .int
abbrev wsX60 : List Cond := u_ws RX6 TX6 4
theorem tyX6_ok : ∀ k, k < 4 → parseFieldDescriptor (TX6 k).2.2.1 = some (tyX6 k) := by decide +kernel
abbrev cX6_init : ByteArray := prog_8_method_1_code
def yX6_init : MethodName := ⟨RX6, "<init>", "()V"⟩
def RX7 : String := "MoleMaps$Rescue"
def TX7 : u_T := fun k => match k with
  | 0 => ("MoleMaps$Rescue", "best", "LMoleMaps$Row;", true)
  | 1 => ("MoleMaps$Rescue", "leastRisk", "I", false)
  | 2 => ("MoleMaps$Rescue", "order", "LMoleMaps$Row;", true)
  | 3 => ("MoleMaps$Rescue", "size", "I", false)
  | _ => ("MoleMaps$Rescue", "ways", "LMoleMaps$Table;", true)
def tyX7 : Nat → FieldType := fun k => match k with
  | 0 => .object "MoleMaps$Row"
  | 1 => .int
  | 2 => .object "MoleMaps$Row"
  | 3 => .int
  | _ => .object "MoleMaps$Table"
abbrev wsX70 : List Cond := u_ws RX7 TX7 5
theorem nmX7 : ∀ a, a < 5 → ∀ b, b < 5 → a ≠ b → (TX7 a).2.1 ≠ (TX7 b).2.1 := by decide +kernel
theorem tyX7_ok : ∀ k, k < 5 → parseFieldDescriptor (TX7 k).2.2.1 = some (tyX7 k) := by decide +kernel
abbrev cX7_init : ByteArray := prog_9_method_1_code
def yX7_init : MethodName := ⟨RX7, "<init>", "()V"⟩
def RX8 : String := "MoleMaps$Row"
def TX8 : u_T := fun k => match k with
  | _ => ("MoleMaps$Row", "cells", "[I", true)
def tyX8 : Nat → FieldType := fun k => match k with
  | _ => .array .int
abbrev wsX80 : List Cond := u_ws RX8 TX8 1
theorem nmX8 : ∀ a, a < 1 → ∀ b, b < 1 → a ≠ b → (TX8 a).2.1 ≠ (TX8 b).2.1 := by decide +kernel
theorem tyX8_ok : ∀ k, k < 1 → parseFieldDescriptor (TX8 k).2.2.1 = some (tyX8 k) := by decide +kernel
abbrev cX8_init : ByteArray := prog_10_method_1_code
def yX8_init : MethodName := ⟨RX8, "<init>", "(I)V"⟩
def RX9 : String := "MoleMaps$Table"
def TX9 : u_T := fun k => match k with
  | _ => ("MoleMaps$Table", "lengths", "LMoleMaps$Row;", true)
def tyX9 : Nat → FieldType := fun k => match k with
  | _ => .object "MoleMaps$Row"
abbrev wsX90 : List Cond := u_ws RX9 TX9 1
theorem nmX9 : ∀ a, a < 1 → ∀ b, b < 1 → a ≠ b → (TX9 a).2.1 ≠ (TX9 b).2.1 := by decide +kernel
theorem tyX9_ok : ∀ k, k < 1 → parseFieldDescriptor (TX9 k).2.2.1 = some (tyX9 k) := by decide +kernel
abbrev cX9_init : ByteArray := prog_11_method_1_code
def yX9_init : MethodName := ⟨RX9, "<init>", "()V"⟩
def RX10 : String := "MoleMaps"
def TX10 : u_T := fun k => match k with
  | 0 => ("MoleMaps", "page", "LMoleMaps$Page;", true)
  | 1 => ("MoleMaps", "plan", "LMoleMaps$Plan;", true)
  | 2 => ("MoleMaps", "air", "LMoleMaps$Air;", true)
  | 3 => ("MoleMaps", "trial", "LMoleMaps$Air;", true)
  | 4 => ("MoleMaps", "smoke", "LMoleMaps$Table;", true)
  | 5 => ("MoleMaps", "crew", "LMoleMaps$Crew;", true)
  | 6 => ("MoleMaps", "now", "LMoleMaps$Moment;", true)
  | 7 => ("MoleMaps", "kept", "LMoleMaps$Moment;", true)
  | 8 => ("MoleMaps", "dream", "LMoleMaps$Moment;", true)
  | 9 => ("MoleMaps", "draws", "LMoleMaps$Draws;", true)
  | 10 => ("MoleMaps", "rescuers", "LMoleMaps$Rescue;", true)
  | 11 => ("MoleMaps", "minesRead", "I", false)
  | 12 => ("MoleMaps", "doorsDone", "I", false)
  | 13 => ("MoleMaps", "keptMine", "I", false)
  | _ => ("MoleMaps", "keptMen", "I", false)
def tyX10 : Nat → FieldType := fun k => match k with
  | 0 => .object "MoleMaps$Page"
  | 1 => .object "MoleMaps$Plan"
  | 2 => .object "MoleMaps$Air"
  | 3 => .object "MoleMaps$Air"
  | 4 => .object "MoleMaps$Table"
  | 5 => .object "MoleMaps$Crew"
  | 6 => .object "MoleMaps$Moment"
  | 7 => .object "MoleMaps$Moment"
  | 8 => .object "MoleMaps$Moment"
  | 9 => .object "MoleMaps$Draws"
  | 10 => .object "MoleMaps$Rescue"
  | 11 => .int
  | 12 => .int
  | 13 => .int
  | _ => .int
abbrev wsX100 : List Cond := u_ws RX10 TX10 15
theorem nmX10 : ∀ a, a < 15 → ∀ b, b < 15 → a ≠ b → (TX10 a).2.1 ≠ (TX10 b).2.1 := by decide +kernel
theorem tyX10_ok : ∀ k, k < 15 → parseFieldDescriptor (TX10 k).2.2.1 = some (tyX10 k) := by decide +kernel
abbrev cX10_init : ByteArray := prog_1_method_1_code
def yX10_init : MethodName := ⟨RX10, "<init>", "()V"⟩
abbrev cX10_letters : ByteArray := prog_1_method_2_code
def yX10_letters : MethodName := ⟨RX10, "letters", "(J)I"⟩
def yX10_isKnot : MethodName := ⟨RX10, "isKnot", "(I)Z"⟩
def yX10_bit : MethodName := ⟨RX10, "bit", "(II)I"⟩
def RX11 : String := "MoleMapsModel"
def TX11 : u_T := fun k => match k with
  | 0 => ("MoleMapsModel", "page", "[I", true)
  | 1 => ("MoleMapsModel", "pageMany", "I", false)
  | 2 => ("MoleMapsModel", "readRows", "[I", true)
  | 3 => ("MoleMapsModel", "readDraughts", "[I", true)
  | 4 => ("MoleMapsModel", "readMany", "I", false)
  | 5 => ("MoleMapsModel", "readShafts", "I", false)
  | 6 => ("MoleMapsModel", "readKnot", "I", false)
  | 7 => ("MoleMapsModel", "state", "I", false)
  | 8 => ("MoleMapsModel", "galleries", "I", false)
  | 9 => ("MoleMapsModel", "minesRead", "I", false)
  | 10 => ("MoleMapsModel", "moon", "I", false)
  | 11 => ("MoleMapsModel", "time", "I", false)
  | 12 => ("MoleMapsModel", "rows", "[I", true)
  | 13 => ("MoleMapsModel", "draughts", "[I", true)
  | 14 => ("MoleMapsModel", "shut", "I", false)
  | 15 => ("MoleMapsModel", "gas", "[I", true)
  | 16 => ("MoleMapsModel", "heights", "[I", true)
  | 17 => ("MoleMapsModel", "steps", "[I", true)
  | 18 => ("MoleMapsModel", "men", "I", false)
  | 19 => ("MoleMapsModel", "menRows", "[I", true)
  | 20 => ("MoleMapsModel", "smoke", "[I", true)
  | 21 => ("MoleMapsModel", "done", "I", false)
  | 22 => ("MoleMapsModel", "lengths", "[I", true)
  | 23 => ("MoleMapsModel", "order", "[I", true)
  | 24 => ("MoleMapsModel", "bestOrder", "[I", true)
  | 25 => ("MoleMapsModel", "seedNow", "I", false)
  | 26 => ("MoleMapsModel", "savedMen", "[I", true)
  | 27 => ("MoleMapsModel", "savedGas", "[I", true)
  | 28 => ("MoleMapsModel", "keptMine", "I", false)
  | 29 => ("MoleMapsModel", "keptMen", "I", false)
  | 30 => ("MoleMapsModel", "keptShut", "I", false)
  | 31 => ("MoleMapsModel", "keptMoon", "I", false)
  | 32 => ("MoleMapsModel", "keptTime", "I", false)
  | 33 => ("MoleMapsModel", "keptGas", "[I", true)
  | 34 => ("MoleMapsModel", "keptMenRows", "[I", true)
  | _ => ("MoleMapsModel", "hash", "J", false)
def tyX11 : Nat → FieldType := fun k => match k with
  | 0 => .array .int
  | 1 => .int
  | 2 => .array .int
  | 3 => .array .int
  | 4 => .int
  | 5 => .int
  | 6 => .int
  | 7 => .int
  | 8 => .int
  | 9 => .int
  | 10 => .int
  | 11 => .int
  | 12 => .array .int
  | 13 => .array .int
  | 14 => .int
  | 15 => .array .int
  | 16 => .array .int
  | 17 => .array .int
  | 18 => .int
  | 19 => .array .int
  | 20 => .array .int
  | 21 => .int
  | 22 => .array .int
  | 23 => .array .int
  | 24 => .array .int
  | 25 => .int
  | 26 => .array .int
  | 27 => .array .int
  | 28 => .int
  | 29 => .int
  | 30 => .int
  | 31 => .int
  | 32 => .int
  | 33 => .array .int
  | 34 => .array .int
  | _ => .long
abbrev wsX110 : List Cond := u_ws RX11 TX11 36
theorem nmX11 : ∀ a, a < 36 → ∀ b, b < 36 → a ≠ b → (TX11 a).2.1 ≠ (TX11 b).2.1 := by decide +kernel
theorem tyX11_ok : ∀ k, k < 36 → parseFieldDescriptor (TX11 k).2.2.1 = some (tyX11 k) := by decide +kernel
abbrev cX11_init : ByteArray := prog_13_method_1_code
def yX11_init : MethodName := ⟨RX11, "<init>", "()V"⟩
def RL : String := "MoleMapsLaw"
abbrev cL_law : ByteArray := code
def wsX8_init : List Cond := .code yX8_init cX8_init 2 none :: ([.methodLink RX8 1 objectInit, .instanceMethod objectInit, .code objectInit ⟨#[0xb1]⟩ 1 none, .arrayClass .int, .fieldLink RX8 7 "MoleMaps$Row" "cells" "[I"] ++ wsX80)
def wsX0_init : List Cond := .code yX0_init cX0_init 1 none :: ([.methodLink RX0 3 objectInit, .instanceMethod objectInit, .code objectInit ⟨#[0xb1]⟩ 1 none, .classLink RX0 9 RX8, .instantiable RX8 1, .initialized RX8, .fieldLink RX0 14 "MoleMaps$Air" "height" "LMoleMaps$Row;", .fieldLink RX0 20 "MoleMaps$Air" "into" "LMoleMaps$Row;", .fieldLink RX0 23 "MoleMaps$Air" "nearest" "LMoleMaps$Row;", .methodLink RX0 11 yX8_init, .instanceMethod yX8_init, .code yX8_init cX8_init 2 none, .methodLink RX8 1 objectInit, .arrayClass .int, .fieldLink RX8 7 "MoleMaps$Row" "cells" "[I"] ++ wsX80 ++ wsX00)
def wsX1_init : List Cond := .code yX1_init cX1_init 1 none :: ([.methodLink RX1 3 objectInit, .instanceMethod objectInit, .code objectInit ⟨#[0xb1]⟩ 1 none, .classLink RX1 9 RX8, .instantiable RX8 1, .initialized RX8, .fieldLink RX1 14 "MoleMaps$Crew" "kinds" "LMoleMaps$Row;", .methodLink RX1 11 yX8_init, .instanceMethod yX8_init, .code yX8_init cX8_init 2 none, .methodLink RX8 1 objectInit, .arrayClass .int, .fieldLink RX8 7 "MoleMaps$Row" "cells" "[I"] ++ wsX80 ++ wsX10)
def wsX2_init : List Cond := .code yX2_init cX2_init 1 none :: ([.methodLink RX2 1 objectInit, .instanceMethod objectInit, .code objectInit ⟨#[0xb1]⟩ 1 none])
def wsX3_init : List Cond := .code yX3_init cX3_init 1 none :: ([.methodLink RX3 3 objectInit, .instanceMethod objectInit, .code objectInit ⟨#[0xb1]⟩ 1 none, .classLink RX3 9 RX8, .instantiable RX8 1, .initialized RX8, .fieldLink RX3 14 "MoleMaps$Moment" "gas" "LMoleMaps$Row;", .fieldLink RX3 20 "MoleMaps$Moment" "place" "LMoleMaps$Row;", .methodLink RX3 11 yX8_init, .instanceMethod yX8_init, .code yX8_init cX8_init 2 none, .methodLink RX8 1 objectInit, .arrayClass .int, .fieldLink RX8 7 "MoleMaps$Row" "cells" "[I"] ++ wsX80 ++ wsX30)
def wsX6_init : List Cond := .code yX6_init cX6_init 1 none :: ([.methodLink RX6 3 objectInit, .instanceMethod objectInit, .code objectInit ⟨#[0xb1]⟩ 1 none])
def wsX4_init : List Cond := .code yX4_init cX4_init 1 none :: ([.methodLink RX4 3 objectInit, .instanceMethod objectInit, .code objectInit ⟨#[0xb1]⟩ 1 none, .classLink RX4 9 RX8, .instantiable RX8 1, .initialized RX8, .fieldLink RX4 14 "MoleMaps$Page" "letters" "LMoleMaps$Row;", .classLink RX4 20 RX6, .instantiable RX6 4, .initialized RX6, .fieldLink RX4 23 "MoleMaps$Page" "reader" "LMoleMaps$Reader;", .methodLink RX4 11 yX8_init, .instanceMethod yX8_init, .code yX8_init cX8_init 2 none, .methodLink RX8 1 objectInit, .arrayClass .int, .fieldLink RX8 7 "MoleMaps$Row" "cells" "[I", .instanceMethod yX6_init, .code yX6_init cX6_init 1 none, .methodLink RX6 3 objectInit] ++ wsX80 ++ wsX40 ++ wsX60)
def wsX5_init : List Cond := .code yX5_init cX5_init 1 none :: ([.methodLink RX5 3 objectInit, .instanceMethod objectInit, .code objectInit ⟨#[0xb1]⟩ 1 none, .classLink RX5 9 RX8, .instantiable RX8 1, .initialized RX8, .fieldLink RX5 14 "MoleMaps$Plan" "one" "LMoleMaps$Row;", .fieldLink RX5 20 "MoleMaps$Plan" "two" "LMoleMaps$Row;", .fieldLink RX5 23 "MoleMaps$Plan" "length" "LMoleMaps$Row;", .fieldLink RX5 26 "MoleMaps$Plan" "draught" "LMoleMaps$Row;", .methodLink RX5 11 yX8_init, .instanceMethod yX8_init, .code yX8_init cX8_init 2 none, .methodLink RX8 1 objectInit, .arrayClass .int, .fieldLink RX8 7 "MoleMaps$Row" "cells" "[I"] ++ wsX80 ++ wsX50)
def wsX9_init : List Cond := .code yX9_init cX9_init 1 none :: ([.methodLink RX9 3 objectInit, .instanceMethod objectInit, .code objectInit ⟨#[0xb1]⟩ 1 none, .classLink RX9 9 RX8, .instantiable RX8 1, .initialized RX8, .fieldLink RX9 14 "MoleMaps$Table" "lengths" "LMoleMaps$Row;", .methodLink RX9 11 yX8_init, .instanceMethod yX8_init, .code yX8_init cX8_init 2 none, .methodLink RX8 1 objectInit, .arrayClass .int, .fieldLink RX8 7 "MoleMaps$Row" "cells" "[I"] ++ wsX80 ++ wsX90)
def wsX7_init : List Cond := .code yX7_init cX7_init 1 none :: ([.methodLink RX7 3 objectInit, .instanceMethod objectInit, .code objectInit ⟨#[0xb1]⟩ 1 none, .classLink RX7 9 RX8, .instantiable RX8 1, .initialized RX8, .fieldLink RX7 14 "MoleMaps$Rescue" "best" "LMoleMaps$Row;", .fieldLink RX7 20 "MoleMaps$Rescue" "order" "LMoleMaps$Row;", .classLink RX7 23 RX9, .instantiable RX9 1, .initialized RX9, .fieldLink RX7 26 "MoleMaps$Rescue" "ways" "LMoleMaps$Table;", .methodLink RX7 11 yX8_init, .instanceMethod yX8_init, .code yX8_init cX8_init 2 none, .methodLink RX8 1 objectInit, .arrayClass .int, .fieldLink RX8 7 "MoleMaps$Row" "cells" "[I", .instanceMethod yX9_init, .code yX9_init cX9_init 1 none, .methodLink RX9 3 objectInit, .classLink RX9 9 RX8, .fieldLink RX9 14 "MoleMaps$Table" "lengths" "LMoleMaps$Row;", .methodLink RX9 11 yX8_init] ++ wsX80 ++ wsX70 ++ wsX90)
def wsX10_init_r1 : List Cond := [Cond.methodLink RX10 1 objectInit, Cond.instanceMethod objectInit, Cond.code objectInit ⟨#[0xb1]⟩ 1 none, Cond.classLink RX10 7 RX4, Cond.instantiable RX4 3, Cond.initialized RX4, Cond.fieldLink RX10 10 "MoleMaps" "page" "LMoleMaps$Page;", Cond.classLink RX10 16 RX5, Cond.instantiable RX5 7, Cond.initialized RX5, Cond.fieldLink RX10 19 "MoleMaps" "plan" "LMoleMaps$Plan;", Cond.classLink RX10 23 RX0, Cond.instantiable RX0 4, Cond.initialized RX0, Cond.fieldLink RX10 26 "MoleMaps" "air" "LMoleMaps$Air;", Cond.fieldLink RX10 30 "MoleMaps" "trial" "LMoleMaps$Air;", Cond.classLink RX10 33 RX9, Cond.instantiable RX9 1, Cond.initialized RX9, Cond.fieldLink RX10 36 "MoleMaps" "smoke" "LMoleMaps$Table;", Cond.classLink RX10 40 RX1, Cond.instantiable RX1 2, Cond.initialized RX1, Cond.fieldLink RX10 43 "MoleMaps" "crew" "LMoleMaps$Crew;"]
def wsX10_init_r2 : List Cond := [Cond.classLink RX10 47 RX3, Cond.instantiable RX3 6, Cond.initialized RX3, Cond.fieldLink RX10 50 "MoleMaps" "now" "LMoleMaps$Moment;", Cond.fieldLink RX10 54 "MoleMaps" "kept" "LMoleMaps$Moment;", Cond.fieldLink RX10 57 "MoleMaps" "dream" "LMoleMaps$Moment;", Cond.classLink RX10 60 RX2, Cond.instantiable RX2 1, Cond.initialized RX2, Cond.fieldLink RX10 63 "MoleMaps" "draws" "LMoleMaps$Draws;", Cond.classLink RX10 67 RX7, Cond.instantiable RX7 5, Cond.initialized RX7, Cond.fieldLink RX10 70 "MoleMaps" "rescuers" "LMoleMaps$Rescue;", Cond.fieldLink RX10 74 "MoleMaps" "keptMine" "I", Cond.instanceMethod yX4_init, Cond.code yX4_init cX4_init 1 none, Cond.methodLink RX4 3 objectInit, Cond.classLink RX4 9 RX8, Cond.instantiable RX8 1, Cond.initialized RX8, Cond.fieldLink RX4 14 "MoleMaps$Page" "letters" "LMoleMaps$Row;", Cond.classLink RX4 20 RX6, Cond.instantiable RX6 4]
def wsX10_init_r3 : List Cond := [Cond.initialized RX6, Cond.fieldLink RX4 23 "MoleMaps$Page" "reader" "LMoleMaps$Reader;", Cond.methodLink RX4 11 yX8_init, Cond.instanceMethod yX8_init, Cond.code yX8_init cX8_init 2 none, Cond.methodLink RX8 1 objectInit, Cond.arrayClass .int, Cond.fieldLink RX8 7 "MoleMaps$Row" "cells" "[I", Cond.instanceMethod yX6_init, Cond.code yX6_init cX6_init 1 none, Cond.methodLink RX6 3 objectInit, Cond.instanceMethod yX5_init, Cond.code yX5_init cX5_init 1 none, Cond.methodLink RX5 3 objectInit, Cond.classLink RX5 9 RX8, Cond.fieldLink RX5 14 "MoleMaps$Plan" "one" "LMoleMaps$Row;", Cond.fieldLink RX5 20 "MoleMaps$Plan" "two" "LMoleMaps$Row;", Cond.fieldLink RX5 23 "MoleMaps$Plan" "length" "LMoleMaps$Row;", Cond.fieldLink RX5 26 "MoleMaps$Plan" "draught" "LMoleMaps$Row;", Cond.methodLink RX5 11 yX8_init, Cond.instanceMethod yX0_init, Cond.code yX0_init cX0_init 1 none, Cond.methodLink RX0 3 objectInit, Cond.classLink RX0 9 RX8]
def wsX10_init_r4 : List Cond := [Cond.fieldLink RX0 14 "MoleMaps$Air" "height" "LMoleMaps$Row;", Cond.fieldLink RX0 20 "MoleMaps$Air" "into" "LMoleMaps$Row;", Cond.fieldLink RX0 23 "MoleMaps$Air" "nearest" "LMoleMaps$Row;", Cond.methodLink RX0 11 yX8_init, Cond.instanceMethod yX9_init, Cond.code yX9_init cX9_init 1 none, Cond.methodLink RX9 3 objectInit, Cond.classLink RX9 9 RX8, Cond.fieldLink RX9 14 "MoleMaps$Table" "lengths" "LMoleMaps$Row;", Cond.methodLink RX9 11 yX8_init, Cond.instanceMethod yX1_init, Cond.code yX1_init cX1_init 1 none, Cond.methodLink RX1 3 objectInit, Cond.classLink RX1 9 RX8, Cond.fieldLink RX1 14 "MoleMaps$Crew" "kinds" "LMoleMaps$Row;", Cond.methodLink RX1 11 yX8_init, Cond.instanceMethod yX3_init, Cond.code yX3_init cX3_init 1 none, Cond.methodLink RX3 3 objectInit, Cond.classLink RX3 9 RX8, Cond.fieldLink RX3 14 "MoleMaps$Moment" "gas" "LMoleMaps$Row;", Cond.fieldLink RX3 20 "MoleMaps$Moment" "place" "LMoleMaps$Row;", Cond.methodLink RX3 11 yX8_init, Cond.instanceMethod yX2_init]
def wsX10_init_r5 : List Cond := [Cond.code yX2_init cX2_init 1 none, Cond.methodLink RX2 1 objectInit, Cond.instanceMethod yX7_init, Cond.code yX7_init cX7_init 1 none, Cond.methodLink RX7 3 objectInit, Cond.classLink RX7 9 RX8, Cond.fieldLink RX7 14 "MoleMaps$Rescue" "best" "LMoleMaps$Row;", Cond.fieldLink RX7 20 "MoleMaps$Rescue" "order" "LMoleMaps$Row;", Cond.classLink RX7 23 RX9, Cond.fieldLink RX7 26 "MoleMaps$Rescue" "ways" "LMoleMaps$Table;", Cond.methodLink RX7 11 yX8_init]
def wsX10_init : List Cond := .code yX10_init cX10_init 1 none :: ((wsX10_init_r1 ++ (wsX10_init_r2 ++ (wsX10_init_r3 ++ (wsX10_init_r4 ++ wsX10_init_r5)))) ++ wsX40 ++ wsX100 ++ wsX50 ++ wsX00 ++ wsX90 ++ wsX10 ++ wsX30 ++ wsX20 ++ wsX70 ++ wsX80 ++ wsX60)
def wsX11_init : List Cond := .code yX11_init cX11_init 1 none :: ([.methodLink RX11 1 objectInit, .instanceMethod objectInit, .code objectInit ⟨#[0xb1]⟩ 1 none, .arrayClass .int, .fieldLink RX11 7 "MoleMapsModel" "page" "[I", .fieldLink RX11 13 "MoleMapsModel" "readRows" "[I", .fieldLink RX11 16 "MoleMapsModel" "readDraughts" "[I", .fieldLink RX11 19 "MoleMapsModel" "rows" "[I", .fieldLink RX11 22 "MoleMapsModel" "draughts" "[I", .fieldLink RX11 25 "MoleMapsModel" "gas" "[I", .fieldLink RX11 28 "MoleMapsModel" "heights" "[I", .fieldLink RX11 31 "MoleMapsModel" "steps" "[I", .fieldLink RX11 34 "MoleMapsModel" "menRows" "[I", .fieldLink RX11 37 "MoleMapsModel" "smoke" "[I", .fieldLink RX11 40 "MoleMapsModel" "lengths" "[I", .fieldLink RX11 43 "MoleMapsModel" "order" "[I", .fieldLink RX11 46 "MoleMapsModel" "bestOrder" "[I", .fieldLink RX11 49 "MoleMapsModel" "savedMen" "[I", .fieldLink RX11 52 "MoleMapsModel" "savedGas" "[I", .fieldLink RX11 55 "MoleMapsModel" "keptGas" "[I", .fieldLink RX11 58 "MoleMapsModel" "keptMenRows" "[I", .fieldLink RX11 61 "MoleMapsModel" "keptMine" "I"] ++ wsX110)
def wsL_law_r1 : List Cond := [Cond.classLink RL 7 RX10, Cond.instantiable RX10 15, Cond.initialized RX10, Cond.classLink RL 10 RX11, Cond.instantiable RX11 36, Cond.initialized RX11, Cond.constantLong RL 13 (4294967295), Cond.methodLink RL 9 yX10_init, Cond.instanceMethod yX10_init, Cond.code yX10_init cX10_init 1 none, Cond.methodLink RX10 1 objectInit, Cond.instanceMethod objectInit, Cond.code objectInit ⟨#[0xb1]⟩ 1 none, Cond.classLink RX10 7 RX4, Cond.instantiable RX4 3, Cond.initialized RX4, Cond.fieldLink RX10 10 "MoleMaps" "page" "LMoleMaps$Page;", Cond.classLink RX10 16 RX5, Cond.instantiable RX5 7, Cond.initialized RX5, Cond.fieldLink RX10 19 "MoleMaps" "plan" "LMoleMaps$Plan;", Cond.classLink RX10 23 RX0, Cond.instantiable RX0 4, Cond.initialized RX0]
def wsL_law_r2 : List Cond := [Cond.fieldLink RX10 26 "MoleMaps" "air" "LMoleMaps$Air;", Cond.fieldLink RX10 30 "MoleMaps" "trial" "LMoleMaps$Air;", Cond.classLink RX10 33 RX9, Cond.instantiable RX9 1, Cond.initialized RX9, Cond.fieldLink RX10 36 "MoleMaps" "smoke" "LMoleMaps$Table;", Cond.classLink RX10 40 RX1, Cond.instantiable RX1 2, Cond.initialized RX1, Cond.fieldLink RX10 43 "MoleMaps" "crew" "LMoleMaps$Crew;", Cond.classLink RX10 47 RX3, Cond.instantiable RX3 6, Cond.initialized RX3, Cond.fieldLink RX10 50 "MoleMaps" "now" "LMoleMaps$Moment;", Cond.fieldLink RX10 54 "MoleMaps" "kept" "LMoleMaps$Moment;", Cond.fieldLink RX10 57 "MoleMaps" "dream" "LMoleMaps$Moment;", Cond.classLink RX10 60 RX2, Cond.instantiable RX2 1, Cond.initialized RX2, Cond.fieldLink RX10 63 "MoleMaps" "draws" "LMoleMaps$Draws;", Cond.classLink RX10 67 RX7, Cond.instantiable RX7 5, Cond.initialized RX7, Cond.fieldLink RX10 70 "MoleMaps" "rescuers" "LMoleMaps$Rescue;"]
def wsL_law_r3 : List Cond := [Cond.fieldLink RX10 74 "MoleMaps" "keptMine" "I", Cond.instanceMethod yX4_init, Cond.code yX4_init cX4_init 1 none, Cond.methodLink RX4 3 objectInit, Cond.classLink RX4 9 RX8, Cond.instantiable RX8 1, Cond.initialized RX8, Cond.fieldLink RX4 14 "MoleMaps$Page" "letters" "LMoleMaps$Row;", Cond.classLink RX4 20 RX6, Cond.instantiable RX6 4, Cond.initialized RX6, Cond.fieldLink RX4 23 "MoleMaps$Page" "reader" "LMoleMaps$Reader;", Cond.methodLink RX4 11 yX8_init, Cond.instanceMethod yX8_init, Cond.code yX8_init cX8_init 2 none, Cond.methodLink RX8 1 objectInit, Cond.arrayClass .int, Cond.fieldLink RX8 7 "MoleMaps$Row" "cells" "[I", Cond.instanceMethod yX6_init, Cond.code yX6_init cX6_init 1 none, Cond.methodLink RX6 3 objectInit, Cond.instanceMethod yX5_init, Cond.code yX5_init cX5_init 1 none, Cond.methodLink RX5 3 objectInit]
def wsL_law_r4 : List Cond := [Cond.classLink RX5 9 RX8, Cond.fieldLink RX5 14 "MoleMaps$Plan" "one" "LMoleMaps$Row;", Cond.fieldLink RX5 20 "MoleMaps$Plan" "two" "LMoleMaps$Row;", Cond.fieldLink RX5 23 "MoleMaps$Plan" "length" "LMoleMaps$Row;", Cond.fieldLink RX5 26 "MoleMaps$Plan" "draught" "LMoleMaps$Row;", Cond.methodLink RX5 11 yX8_init, Cond.instanceMethod yX0_init, Cond.code yX0_init cX0_init 1 none, Cond.methodLink RX0 3 objectInit, Cond.classLink RX0 9 RX8, Cond.fieldLink RX0 14 "MoleMaps$Air" "height" "LMoleMaps$Row;", Cond.fieldLink RX0 20 "MoleMaps$Air" "into" "LMoleMaps$Row;", Cond.fieldLink RX0 23 "MoleMaps$Air" "nearest" "LMoleMaps$Row;", Cond.methodLink RX0 11 yX8_init, Cond.instanceMethod yX9_init, Cond.code yX9_init cX9_init 1 none, Cond.methodLink RX9 3 objectInit, Cond.classLink RX9 9 RX8, Cond.fieldLink RX9 14 "MoleMaps$Table" "lengths" "LMoleMaps$Row;", Cond.methodLink RX9 11 yX8_init, Cond.instanceMethod yX1_init, Cond.code yX1_init cX1_init 1 none, Cond.methodLink RX1 3 objectInit, Cond.classLink RX1 9 RX8]
def wsL_law_r5 : List Cond := [Cond.fieldLink RX1 14 "MoleMaps$Crew" "kinds" "LMoleMaps$Row;", Cond.methodLink RX1 11 yX8_init, Cond.instanceMethod yX3_init, Cond.code yX3_init cX3_init 1 none, Cond.methodLink RX3 3 objectInit, Cond.classLink RX3 9 RX8, Cond.fieldLink RX3 14 "MoleMaps$Moment" "gas" "LMoleMaps$Row;", Cond.fieldLink RX3 20 "MoleMaps$Moment" "place" "LMoleMaps$Row;", Cond.methodLink RX3 11 yX8_init, Cond.instanceMethod yX2_init, Cond.code yX2_init cX2_init 1 none, Cond.methodLink RX2 1 objectInit, Cond.instanceMethod yX7_init, Cond.code yX7_init cX7_init 1 none, Cond.methodLink RX7 3 objectInit, Cond.classLink RX7 9 RX8, Cond.fieldLink RX7 14 "MoleMaps$Rescue" "best" "LMoleMaps$Row;", Cond.fieldLink RX7 20 "MoleMaps$Rescue" "order" "LMoleMaps$Row;", Cond.classLink RX7 23 RX9, Cond.fieldLink RX7 26 "MoleMaps$Rescue" "ways" "LMoleMaps$Table;", Cond.methodLink RX7 11 yX8_init, Cond.methodLink RL 12 yX11_init, Cond.instanceMethod yX11_init, Cond.code yX11_init cX11_init 1 none]
def wsL_law_r6 : List Cond := [Cond.methodLink RX11 1 objectInit, Cond.fieldLink RX11 7 "MoleMapsModel" "page" "[I", Cond.fieldLink RX11 13 "MoleMapsModel" "readRows" "[I", Cond.fieldLink RX11 16 "MoleMapsModel" "readDraughts" "[I", Cond.fieldLink RX11 19 "MoleMapsModel" "rows" "[I", Cond.fieldLink RX11 22 "MoleMapsModel" "draughts" "[I", Cond.fieldLink RX11 25 "MoleMapsModel" "gas" "[I", Cond.fieldLink RX11 28 "MoleMapsModel" "heights" "[I", Cond.fieldLink RX11 31 "MoleMapsModel" "steps" "[I", Cond.fieldLink RX11 34 "MoleMapsModel" "menRows" "[I", Cond.fieldLink RX11 37 "MoleMapsModel" "smoke" "[I", Cond.fieldLink RX11 40 "MoleMapsModel" "lengths" "[I", Cond.fieldLink RX11 43 "MoleMapsModel" "order" "[I", Cond.fieldLink RX11 46 "MoleMapsModel" "bestOrder" "[I", Cond.fieldLink RX11 49 "MoleMapsModel" "savedMen" "[I", Cond.fieldLink RX11 52 "MoleMapsModel" "savedGas" "[I", Cond.fieldLink RX11 55 "MoleMapsModel" "keptGas" "[I", Cond.fieldLink RX11 58 "MoleMapsModel" "keptMenRows" "[I", Cond.fieldLink RX11 61 "MoleMapsModel" "keptMine" "I", Cond.methodLink RL 15 yX10_letters, Cond.instanceMethod yX10_letters, Cond.selects RX10 yX10_letters yX10_letters, Cond.code yX10_letters cX10_letters 4 (some .int), Cond.fieldLink RX10 82 "MoleMaps$Page" "length" "I"]
def wsL_law : List Cond := (wsL_law_r1 ++ (wsL_law_r2 ++ (wsL_law_r3 ++ (wsL_law_r4 ++ (wsL_law_r5 ++ wsL_law_r6))))) ++ wsX100 ++ wsX110 ++ wsX40 ++ wsX50 ++ wsX00 ++ wsX90 ++ wsX10 ++ wsX30 ++ wsX20 ++ wsX70 ++ wsX80 ++ wsX60 ++ ([] : List Cond)

def lt_ch : List (List Cond) := [k2_sels lw_privs, tables_1_1, tables_1_2, tables_1_3, tables_1_4, tables_1_5]
theorem ltc_0 : ∀ w ∈ k2_sels lw_privs, w ∈ lw_tbl := fun _ h => List.mem_append_left _ h
theorem ltc_1 : ∀ w ∈ tables_1_1, w ∈ lw_tbl := fun _ h => List.mem_append_right _ (List.mem_append_left _ h)
theorem ltc_2 : ∀ w ∈ tables_1_2, w ∈ lw_tbl := fun _ h => List.mem_append_right _ (List.mem_append_right _ (List.mem_append_left _ h))
theorem ltc_3 : ∀ w ∈ tables_1_3, w ∈ lw_tbl := fun _ h => List.mem_append_right _ (List.mem_append_right _ (List.mem_append_right _ (List.mem_append_left _ h)))
theorem ltc_4 : ∀ w ∈ tables_1_4, w ∈ lw_tbl := fun _ h => List.mem_append_right _ (List.mem_append_right _ (List.mem_append_right _ (List.mem_append_right _ (List.mem_append_left _ h))))
theorem ltc_5 : ∀ w ∈ tables_1_5, w ∈ lw_tbl := fun _ h => List.mem_append_right _ (List.mem_append_right _ (List.mem_append_right _ (List.mem_append_right _ (List.mem_append_right _ (h)))))
theorem lt_cons {c : List Cond} {l : List (List Cond)} (h1 : ∀ w ∈ c, w ∈ lw_tbl) (h2 : ∀ x ∈ l, ∀ w ∈ x, w ∈ lw_tbl) : ∀ x ∈ c :: l, ∀ w ∈ x, w ∈ lw_tbl := fun x hx w hw => (List.mem_cons.mp hx).elim (fun e => h1 w (e ▸ hw)) (fun h => h2 x h w hw)
theorem lt_ch_in : ∀ c ∈ lt_ch, ∀ w ∈ c, w ∈ lw_tbl := (lt_cons ltc_0 (lt_cons ltc_1 (lt_cons ltc_2 (lt_cons ltc_3 (lt_cons ltc_4 (lt_cons ltc_5 (fun _ h => absurd h List.not_mem_nil)))))))
def lt_lk (p : Nat × Nat) : Option Cond := match lt_ch[p.1]? with
  | some c => c[p.2]?
  | none => none
theorem goodIn_t (ws : List Cond) (ps : List (Nat × Nat)) (hp : ws = ps.filterMap lt_lk) : ∀ w ∈ ws, w ∈ lw_tbl := by
  intro w hw
  rw [hp] at hw
  obtain ⟨p, -, hq⟩ := List.mem_filterMap.mp hw
  unfold lt_lk at hq
  split at hq
  · rename_i c hc
    exact lt_ch_in c (List.mem_of_getElem? hc) w (List.mem_of_getElem? hq)
  · cases hq
theorem wl_app {a b t : List Cond} (ha : ∀ w ∈ a, w ∈ t) (hb : ∀ w ∈ b, w ∈ t) : ∀ w ∈ a ++ b, w ∈ t := fun w h => (List.mem_append.mp h).elim (ha w) (hb w)
set_option maxRecDepth 20000 in
theorem wsL_law_r1_in : ∀ w ∈ wsL_law_r1, w ∈ lw_tbl := goodIn_t _ [(1, 15), (1, 16), (1, 1), (3, 222), (3, 223), (1, 12), (5, 115), (1, 17), (1, 18), (1, 19), (1, 20), (1, 21), (1, 22), (1, 23), (1, 24), (1, 2), (2, 7), (1, 73), (1, 74), (1, 5), (2, 8), (1, 119), (1, 120), (1, 6)] (by decide +kernel)
set_option maxRecDepth 20000 in
theorem wsL_law_r2_in : ∀ w ∈ wsL_law_r2, w ∈ lw_tbl := goodIn_t _ [(2, 9), (2, 10), (1, 143), (1, 144), (1, 7), (2, 11), (1, 155), (1, 156), (1, 8), (2, 12), (1, 173), (1, 174), (1, 9), (2, 13), (2, 14), (2, 15), (1, 208), (1, 209), (1, 10), (2, 16), (1, 219), (1, 220), (1, 11), (2, 17)] (by decide +kernel)
set_option maxRecDepth 20000 in
theorem wsL_law_r3_in : ∀ w ∈ wsL_law_r3, w ∈ lw_tbl := goodIn_t _ [(2, 20), (1, 26), (1, 27), (1, 28), (1, 29), (1, 30), (1, 3), (1, 59), (1, 40), (1, 41), (1, 4), (1, 65), (1, 31), (1, 32), (1, 33), (1, 34), (1, 39), (1, 35), (1, 43), (1, 44), (1, 45), (1, 76), (1, 77), (1, 78)] (by decide +kernel)
set_option maxRecDepth 20000 in
theorem wsL_law_r4_in : ∀ w ∈ wsL_law_r4, w ∈ lw_tbl := goodIn_t _ [(1, 79), (1, 85), (1, 89), (1, 93), (1, 99), (1, 80), (1, 122), (1, 123), (1, 124), (1, 125), (1, 127), (1, 129), (1, 133), (1, 126), (1, 146), (1, 147), (1, 148), (1, 149), (1, 151), (1, 150), (1, 158), (1, 159), (1, 160), (1, 161)] (by decide +kernel)
set_option maxRecDepth 20000 in
theorem wsL_law_r5_in : ∀ w ∈ wsL_law_r5, w ∈ lw_tbl := goodIn_t _ [(1, 163), (1, 162), (1, 176), (1, 177), (1, 178), (1, 179), (1, 186), (1, 189), (1, 180), (1, 211), (1, 212), (1, 213), (1, 222), (1, 223), (1, 224), (1, 225), (1, 229), (1, 233), (1, 227), (1, 235), (1, 226), (3, 224), (3, 225), (3, 226)] (by decide +kernel)
set_option maxRecDepth 20000 in
theorem wsL_law_r6_in : ∀ w ∈ wsL_law_r6, w ∈ lw_tbl := goodIn_t _ [(3, 227), (3, 228), (3, 230), (3, 231), (4, 0), (4, 1), (4, 3), (4, 4), (4, 5), (4, 7), (4, 8), (4, 10), (4, 11), (4, 12), (4, 14), (4, 15), (4, 21), (4, 22), (4, 16), (2, 53), (2, 54), (2, 55), (2, 56), (1, 62)] (by decide +kernel)
