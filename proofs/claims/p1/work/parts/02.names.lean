def RX0 : String := "KeyAtlas$Body"
abbrev cX0_init : ByteArray := prog_2_method_1_code
def yX0_init : MethodName := ⟨RX0, "<init>", "(II)V"⟩
def RX1 : String := "KeyAtlas$Cursor"
def TX1 : u_T := fun k => match k with
  | 0 => ("KeyAtlas$Body", "kind", "I", true)
  | 1 => ("KeyAtlas$Body", "whole", "I", true)
  | 2 => ("KeyAtlas$Cursor", "keyed", "LKeyAtlas$Keyed;", true)
  | 3 => ("KeyAtlas$Cursor", "next", "I", false)
  | 4 => ("KeyAtlas$Cursor", "passed", "I", false)
  | _ => ("KeyAtlas$Cursor", "seenChanges", "I", false)
def tyX1 : Nat → FieldType := fun k => match k with
  | 0 => .int
  | 1 => .int
  | 2 => .object "KeyAtlas$Keyed"
  | 3 => .int
  | 4 => .int
  | _ => .int
abbrev wsX10 : List Cond := u_ws RX1 TX1 6
theorem tyX1_ok : ∀ k, k < 6 → parseFieldDescriptor (TX1 k).2.2.1 = some (tyX1 k) := by decide +kernel
def RX2 : String := "KeyAtlas$Hash"
def TX2 : u_T := fun k => match k with
  | 0 => ("KeyAtlas$Keyed", "rows", "LKeyAtlas$Rows;", true)
  | 1 => ("KeyAtlas$Body", "kind", "I", true)
  | 2 => ("KeyAtlas$Body", "whole", "I", true)
  | 3 => ("KeyAtlas$Hash", "capacity", "I", true)
  | 4 => ("KeyAtlas$Hash", "rule", "I", true)
  | 5 => ("KeyAtlas$Hash", "table", "I", false)
  | _ => ("KeyAtlas$Hash", "bushy", "[Z", false)
def tyX2 : Nat → FieldType := fun k => match k with
  | 0 => .object "KeyAtlas$Rows"
  | 1 => .int
  | 2 => .int
  | 3 => .int
  | 4 => .int
  | 5 => .int
  | _ => .array .boolean
abbrev wsX20 : List Cond := u_ws RX2 TX2 7
theorem nmX2 : ∀ a, a < 7 → ∀ b, b < 7 → a ≠ b → (TX2 a).2.1 ≠ (TX2 b).2.1 := by decide +kernel
theorem tyX2_ok : ∀ k, k < 7 → parseFieldDescriptor (TX2 k).2.2.1 = some (tyX2 k) := by decide +kernel
abbrev cX2_init : ByteArray := prog_4_method_1_code
def yX2_init : MethodName := ⟨RX2, "<init>", "(II)V"⟩
def RX3 : String := "KeyAtlas$Keyed"
abbrev cX3_init : ByteArray := prog_5_method_1_code
def yX3_init : MethodName := ⟨RX3, "<init>", "(IILKeyAtlas$Rows;)V"⟩
def RX4 : String := "KeyAtlas$Linked"
def TX4 : u_T := fun k => match k with
  | 0 => ("KeyAtlas$Keyed", "rows", "LKeyAtlas$Rows;", true)
  | 1 => ("KeyAtlas$Body", "kind", "I", true)
  | 2 => ("KeyAtlas$Body", "whole", "I", true)
  | 3 => ("KeyAtlas$Linked", "limit", "I", true)
  | _ => ("KeyAtlas$Linked", "isByUse", "Z", true)
def tyX4 : Nat → FieldType := fun k => match k with
  | 0 => .object "KeyAtlas$Rows"
  | 1 => .int
  | 2 => .int
  | 3 => .int
  | _ => .boolean
abbrev wsX40 : List Cond := u_ws RX4 TX4 5
theorem nmX4 : ∀ a, a < 5 → ∀ b, b < 5 → a ≠ b → (TX4 a).2.1 ≠ (TX4 b).2.1 := by decide +kernel
theorem tyX4_ok : ∀ k, k < 5 → parseFieldDescriptor (TX4 k).2.2.1 = some (tyX4 k) := by decide +kernel
abbrev cX4_init : ByteArray := prog_6_method_1_code
def yX4_init : MethodName := ⟨RX4, "<init>", "(IZ)V"⟩
def RX5 : String := "KeyAtlas$Rows"
def TX5 : u_T := fun k => match k with
  | 0 => ("KeyAtlas$Rows", "keys", "[I", false)
  | 1 => ("KeyAtlas$Rows", "values", "[I", false)
  | 2 => ("KeyAtlas$Rows", "size", "I", false)
  | _ => ("KeyAtlas$Rows", "changes", "I", false)
def tyX5 : Nat → FieldType := fun k => match k with
  | 0 => .array .int
  | 1 => .array .int
  | 2 => .int
  | _ => .int
abbrev wsX50 : List Cond := u_ws RX5 TX5 4
theorem nmX5 : ∀ a, a < 4 → ∀ b, b < 4 → a ≠ b → (TX5 a).2.1 ≠ (TX5 b).2.1 := by decide +kernel
theorem tyX5_ok : ∀ k, k < 4 → parseFieldDescriptor (TX5 k).2.2.1 = some (tyX5 k) := by decide +kernel
abbrev cX5_init : ByteArray := prog_7_method_1_code
def yX5_init : MethodName := ⟨RX5, "<init>", "()V"⟩
def RX6 : String := "KeyAtlas$Sorted"
def TX6 : u_T := fun k => match k with
  | 0 => ("KeyAtlas$Keyed", "rows", "LKeyAtlas$Rows;", true)
  | 1 => ("KeyAtlas$Body", "kind", "I", true)
  | 2 => ("KeyAtlas$Body", "whole", "I", true)
  | 3 => ("KeyAtlas$Sorted", "order", "I", true)
  | 4 => ("KeyAtlas$Sorted", "isTurned", "Z", true)
  | 5 => ("KeyAtlas$Sorted", "low", "J", true)
  | _ => ("KeyAtlas$Sorted", "high", "J", true)
def tyX6 : Nat → FieldType := fun k => match k with
  | 0 => .object "KeyAtlas$Rows"
  | 1 => .int
  | 2 => .int
  | 3 => .int
  | 4 => .boolean
  | 5 => .long
  | _ => .long
abbrev wsX60 : List Cond := u_ws RX6 TX6 7
theorem nmX6 : ∀ a, a < 7 → ∀ b, b < 7 → a ≠ b → (TX6 a).2.1 ≠ (TX6 b).2.1 := by decide +kernel
theorem tyX6_ok : ∀ k, k < 7 → parseFieldDescriptor (TX6 k).2.2.1 = some (tyX6 k) := by decide +kernel
abbrev cX6_init : ByteArray := prog_8_method_1_code
def yX6_init : MethodName := ⟨RX6, "<init>", "(I)V"⟩
def RX7 : String := "KeyAtlas"
def TX7 : u_T := fun k => match k with
  | _ => ("KeyAtlas", "bodies", "[LKeyAtlas$Body;", true)
def tyX7 : Nat → FieldType := fun k => match k with
  | _ => .array (.object "KeyAtlas$Body")
abbrev wsX70 : List Cond := u_ws RX7 TX7 1
theorem nmX7 : ∀ a, a < 1 → ∀ b, b < 1 → a ≠ b → (TX7 a).2.1 ≠ (TX7 b).2.1 := by decide +kernel
theorem tyX7_ok : ∀ k, k < 1 → parseFieldDescriptor (TX7 k).2.2.1 = some (tyX7 k) := by decide +kernel
abbrev cX7_init : ByteArray := prog_1_method_1_code
def yX7_init : MethodName := ⟨RX7, "<init>", "()V"⟩
abbrev cX7_make : ByteArray := prog_1_method_2_code
def yX7_make : MethodName := ⟨RX7, "make", "(III)I"⟩
abbrev cX7_drop : ByteArray := prog_1_method_3_code
def yX7_drop : MethodName := ⟨RX7, "drop", "(I)I"⟩
abbrev cX7_map : ByteArray := prog_1_method_4_code
def yX7_map : MethodName := ⟨RX7, "map", "(IIII)J"⟩
abbrev cX7_view : ByteArray := prog_1_method_5_code
def yX7_view : MethodName := ⟨RX7, "view", "(IIII)I"⟩
abbrev cX7_cursor : ByteArray := prog_1_method_6_code
def yX7_cursor : MethodName := ⟨RX7, "cursor", "(I)I"⟩
abbrev cX7_move : ByteArray := prog_1_method_7_code
def yX7_move : MethodName := ⟨RX7, "move", "(III)J"⟩
abbrev cX7_item : ByteArray := prog_1_method_8_code
def yX7_item : MethodName := ⟨RX7, "item", "(III)J"⟩
abbrev cX7_count : ByteArray := prog_1_method_9_code
def yX7_count : MethodName := ⟨RX7, "count", "(I)I"⟩
abbrev cX7_areInRange : ByteArray := prog_1_method_10_code
def yX7_areInRange : MethodName := ⟨RX7, "areInRange", "(III)Z"⟩
abbrev cX7_newMap : ByteArray := prog_1_method_11_code
def yX7_newMap : MethodName := ⟨RX7, "newMap", "(III)LKeyAtlas$Keyed;"⟩
abbrev cX7_bodyAt : ByteArray := prog_1_method_13_code
def yX7_bodyAt : MethodName := ⟨RX7, "bodyAt", "(I)LKeyAtlas$Body;"⟩
abbrev cX7_bodyOrNull : ByteArray := prog_1_method_14_code
def yX7_bodyOrNull : MethodName := ⟨RX7, "bodyOrNull", "(I)LKeyAtlas$Body;"⟩
abbrev cX7_settle : ByteArray := prog_1_method_18_code
def yX7_settle : MethodName := ⟨RX7, "settle", "(LKeyAtlas$Body;)I"⟩
abbrev cX7_howManyBodies : ByteArray := prog_1_method_20_code
def yX7_howManyBodies : MethodName := ⟨RX7, "howManyBodies", "()I"⟩
abbrev cX7_kindOf : ByteArray := prog_1_method_21_code
def yX7_kindOf : MethodName := ⟨RX7, "kindOf", "(I)I"⟩
abbrev cX7_sizeOf : ByteArray := prog_1_method_22_code
def yX7_sizeOf : MethodName := ⟨RX7, "sizeOf", "(I)I"⟩
def RX8 : String := "KeyAtlasModel"
def TX8 : u_T := fun k => match k with
  | 0 => ("KeyAtlasModel", "thrown", "I", false)
  | 1 => ("KeyAtlasModel", "kind", "[I", true)
  | 2 => ("KeyAtlasModel", "cell", "[I", true)
  | 3 => ("KeyAtlasModel", "size", "[I", true)
  | 4 => ("KeyAtlasModel", "first", "[I", true)
  | 5 => ("KeyAtlasModel", "second", "[I", true)
  | 6 => ("KeyAtlasModel", "table", "[I", true)
  | 7 => ("KeyAtlasModel", "changes", "[I", true)
  | 8 => ("KeyAtlasModel", "parent", "[I", true)
  | 9 => ("KeyAtlasModel", "from", "[I", true)
  | 10 => ("KeyAtlasModel", "to", "[I", true)
  | 11 => ("KeyAtlasModel", "way", "[I", true)
  | 12 => ("KeyAtlasModel", "seen", "[I", true)
  | 13 => ("KeyAtlasModel", "keys", "[I", true)
  | 14 => ("KeyAtlasModel", "values", "[I", true)
  | 15 => ("KeyAtlasModel", "bushy", "[Z", true)
  | _ => ("KeyAtlasModel", "gone", "[Z", true)
def tyX8 : Nat → FieldType := fun k => match k with
  | 0 => .int
  | 1 => .array .int
  | 2 => .array .int
  | 3 => .array .int
  | 4 => .array .int
  | 5 => .array .int
  | 6 => .array .int
  | 7 => .array .int
  | 8 => .array .int
  | 9 => .array .int
  | 10 => .array .int
  | 11 => .array .int
  | 12 => .array .int
  | 13 => .array .int
  | 14 => .array .int
  | 15 => .array .boolean
  | _ => .array .boolean
abbrev wsX80 : List Cond := u_ws RX8 TX8 17
theorem nmX8 : ∀ a, a < 17 → ∀ b, b < 17 → a ≠ b → (TX8 a).2.1 ≠ (TX8 b).2.1 := by decide +kernel
theorem tyX8_ok : ∀ k, k < 17 → parseFieldDescriptor (TX8 k).2.2.1 = some (tyX8 k) := by decide +kernel
abbrev cX8_init : ByteArray := prog_10_method_1_code
def yX8_init : MethodName := ⟨RX8, "<init>", "()V"⟩
abbrev cX8_thrown : ByteArray := prog_10_method_2_code
def yX8_thrown : MethodName := ⟨RX8, "thrown", "()I"⟩
abbrev cX8_refuse : ByteArray := prog_10_method_3_code
def yX8_refuse : MethodName := ⟨RX8, "refuse", "(I)I"⟩
abbrev cX8_in : ByteArray := prog_10_method_4_code
def yX8_in : MethodName := ⟨RX8, "in", "(III)Z"⟩
abbrev cX8_isThere : ByteArray := prog_10_method_5_code
def yX8_isThere : MethodName := ⟨RX8, "isThere", "(I)Z"⟩
abbrev cX8_free : ByteArray := prog_10_method_6_code
def yX8_free : MethodName := ⟨RX8, "free", "()I"⟩
abbrev cX8_born : ByteArray := prog_10_method_7_code
def yX8_born : MethodName := ⟨RX8, "born", "(II)I"⟩
abbrev cX8_make : ByteArray := prog_10_method_8_code
def yX8_make : MethodName := ⟨RX8, "make", "(III)I"⟩
abbrev cX8_drop : ByteArray := prog_10_method_10_code
def yX8_drop : MethodName := ⟨RX8, "drop", "(I)I"⟩
abbrev cX8_isMap : ByteArray := prog_10_method_14_code
def yX8_isMap : MethodName := ⟨RX8, "isMap", "(I)Z"⟩
abbrev cX8_map : ByteArray := prog_10_method_34_code
def yX8_map : MethodName := ⟨RX8, "map", "(IIII)J"⟩
abbrev cX8_view : ByteArray := prog_10_method_42_code
def yX8_view : MethodName := ⟨RX8, "view", "(IIII)I"⟩
abbrev cX8_cursor : ByteArray := prog_10_method_43_code
def yX8_cursor : MethodName := ⟨RX8, "cursor", "(I)I"⟩
abbrev cX8_move : ByteArray := prog_10_method_44_code
def yX8_move : MethodName := ⟨RX8, "move", "(III)J"⟩
abbrev cX8_item : ByteArray := prog_10_method_45_code
def yX8_item : MethodName := ⟨RX8, "item", "(III)J"⟩
abbrev cX8_count : ByteArray := prog_10_method_46_code
def yX8_count : MethodName := ⟨RX8, "count", "(I)I"⟩
def RJx3273f : String := "java/lang/ClassCastException"
def TJx3273f : u_T := fun k => match k with
  | 0 => ("java/lang/Throwable", "cause", "Ljava/lang/Throwable;", false)
  | 1 => ("java/lang/Throwable", "stackTrace", "[Ljava/lang/StackTraceElement;", false)
  | 2 => ("java/lang/Throwable", "suppressedExceptions", "Ljava/util/List;", false)
  | 3 => ("java/lang/Throwable", "detailMessage", "Ljava/lang/String;", false)
  | 4 => ("java/lang/Throwable", "backtrace", "Ljava/lang/Object;", false)
  | _ => ("java/lang/Throwable", "depth", "I", false)
def RJxde1cd : String := "java/lang/NegativeArraySizeException"
def TJxde1cd : u_T := fun k => match k with
  | 0 => ("java/lang/Throwable", "cause", "Ljava/lang/Throwable;", false)
  | 1 => ("java/lang/Throwable", "stackTrace", "[Ljava/lang/StackTraceElement;", false)
  | 2 => ("java/lang/Throwable", "suppressedExceptions", "Ljava/util/List;", false)
  | 3 => ("java/lang/Throwable", "detailMessage", "Ljava/lang/String;", false)
  | 4 => ("java/lang/Throwable", "backtrace", "Ljava/lang/Object;", false)
  | _ => ("java/lang/Throwable", "depth", "I", false)
abbrev wsJxde1cd0 : List Cond := u_ws RJxde1cd TJxde1cd 6
def RL : String := "KeyAtlasLaw"
abbrev cL_make : ByteArray := method_3_code
def yL_make : MethodName := ⟨RL, "make", "(LKeyAtlas;III[J)I"⟩
abbrev cL_drop : ByteArray := method_4_code
def yL_drop : MethodName := ⟨RL, "drop", "(LKeyAtlas;I[J)I"⟩
abbrev cL_map : ByteArray := method_5_code
def yL_map : MethodName := ⟨RL, "map", "(LKeyAtlas;IIII[J)I"⟩
abbrev cL_view : ByteArray := method_6_code
def yL_view : MethodName := ⟨RL, "view", "(LKeyAtlas;IIII[J)I"⟩
abbrev cL_cursor : ByteArray := method_7_code
def yL_cursor : MethodName := ⟨RL, "cursor", "(LKeyAtlas;I[J)I"⟩
abbrev cL_move : ByteArray := method_8_code
def yL_move : MethodName := ⟨RL, "move", "(LKeyAtlas;III[J)I"⟩
abbrev cL_item : ByteArray := method_9_code
def yL_item : MethodName := ⟨RL, "item", "(LKeyAtlas;III[J)I"⟩
abbrev cL_count : ByteArray := method_10_code
def yL_count : MethodName := ⟨RL, "count", "(LKeyAtlas;I[J)I"⟩
abbrev cL_law : ByteArray := code
def wsX0_init : List Cond := .code yX0_init cX0_init 3 none :: ([.methodLink RX0 1 objectInit, .instanceMethod objectInit, .code objectInit ⟨#[0xb1]⟩ 1 none, .fieldLink RX0 7 "KeyAtlas$Body" "kind" "I", .fieldLink RX0 13 "KeyAtlas$Body" "whole" "I"] ++ wsX10 ++ wsX20 ++ wsX40 ++ wsX60)
def wsX5_init : List Cond := .code yX5_init cX5_init 1 none :: ([.methodLink RX5 3 objectInit, .instanceMethod objectInit, .code objectInit ⟨#[0xb1]⟩ 1 none, .arrayClass .int, .fieldLink RX5 9 "KeyAtlas$Rows" "keys" "[I", .fieldLink RX5 15 "KeyAtlas$Rows" "values" "[I"] ++ wsX50)
def wsX3_init : List Cond := .code yX3_init cX3_init 4 none :: ([.fieldLink RX3 9 "KeyAtlas$Keyed" "rows" "LKeyAtlas$Rows;", .methodLink RX3 3 yX0_init, .instanceMethod yX0_init, .initialized RX0, .code yX0_init cX0_init 3 none, .methodLink RX0 1 objectInit, .instanceMethod objectInit, .code objectInit ⟨#[0xb1]⟩ 1 none, .fieldLink RX0 7 "KeyAtlas$Body" "kind" "I", .fieldLink RX0 13 "KeyAtlas$Body" "whole" "I"] ++ wsX20 ++ wsX40 ++ wsX60 ++ wsX10)
def wsX2_init_r1 : List Cond := [Cond.classLink RX2 3 RX5, Cond.instantiable RX5 4, Cond.initialized RX5, Cond.arrayClass .boolean, Cond.fieldLink RX2 14 "KeyAtlas$Hash" "bushy" "[Z", Cond.fieldLink RX2 20 "KeyAtlas$Hash" "capacity" "I", Cond.fieldLink RX2 24 "KeyAtlas$Hash" "rule" "I", Cond.instanceMethod yX5_init, Cond.code yX5_init cX5_init 1 none, Cond.methodLink RX5 3 objectInit, Cond.instanceMethod objectInit, Cond.code objectInit ⟨#[0xb1]⟩ 1 none, Cond.arrayClass .int, Cond.fieldLink RX5 9 "KeyAtlas$Rows" "keys" "[I", Cond.fieldLink RX5 15 "KeyAtlas$Rows" "values" "[I", Cond.methodLink RX2 9 yX3_init, Cond.instanceMethod yX3_init, Cond.initialized RX3, Cond.code yX3_init cX3_init 4 none, Cond.fieldLink RX3 9 "KeyAtlas$Keyed" "rows" "LKeyAtlas$Rows;", Cond.methodLink RX3 3 yX0_init, Cond.instanceMethod yX0_init, Cond.initialized RX0, Cond.code yX0_init cX0_init 3 none]
def wsX2_init_r2 : List Cond := [Cond.methodLink RX0 1 objectInit, Cond.fieldLink RX0 7 "KeyAtlas$Body" "kind" "I", Cond.fieldLink RX0 13 "KeyAtlas$Body" "whole" "I"]
def wsX2_init : List Cond := .code yX2_init cX2_init 3 none :: ((wsX2_init_r1 ++ wsX2_init_r2) ++ wsX50 ++ wsX20 ++ wsX40 ++ wsX60 ++ wsX10)
def wsX4_init_r1 : List Cond := [Cond.classLink RX4 3 RX5, Cond.instantiable RX5 4, Cond.initialized RX5, Cond.fieldLink RX4 14 "KeyAtlas$Linked" "limit" "I", Cond.fieldLink RX4 20 "KeyAtlas$Linked" "isByUse" "Z", Cond.instanceMethod yX5_init, Cond.code yX5_init cX5_init 1 none, Cond.methodLink RX5 3 objectInit, Cond.instanceMethod objectInit, Cond.code objectInit ⟨#[0xb1]⟩ 1 none, Cond.arrayClass .int, Cond.fieldLink RX5 9 "KeyAtlas$Rows" "keys" "[I", Cond.fieldLink RX5 15 "KeyAtlas$Rows" "values" "[I", Cond.methodLink RX4 9 yX3_init, Cond.instanceMethod yX3_init, Cond.initialized RX3, Cond.code yX3_init cX3_init 4 none, Cond.fieldLink RX3 9 "KeyAtlas$Keyed" "rows" "LKeyAtlas$Rows;", Cond.methodLink RX3 3 yX0_init, Cond.instanceMethod yX0_init, Cond.initialized RX0, Cond.code yX0_init cX0_init 3 none, Cond.methodLink RX0 1 objectInit, Cond.fieldLink RX0 7 "KeyAtlas$Body" "kind" "I"]
def wsX4_init_r2 : List Cond := [Cond.fieldLink RX0 13 "KeyAtlas$Body" "whole" "I"]
def wsX4_init : List Cond := .code yX4_init cX4_init 3 none :: ((wsX4_init_r1 ++ wsX4_init_r2) ++ wsX50 ++ wsX40 ++ wsX20 ++ wsX60 ++ wsX10)
def wsX6_init_r1 : List Cond := [Cond.classLink RX6 5 RX5, Cond.instantiable RX5 4, Cond.initialized RX5, Cond.fieldLink RX6 16 "KeyAtlas$Sorted" "order" "I", Cond.fieldLink RX6 22 "KeyAtlas$Sorted" "isTurned" "Z", Cond.constantLong RX6 26 (-9223372036854775808), Cond.fieldLink RX6 28 "KeyAtlas$Sorted" "low" "J", Cond.constantLong RX6 32 (9223372036854775807), Cond.fieldLink RX6 34 "KeyAtlas$Sorted" "high" "J", Cond.instanceMethod yX5_init, Cond.code yX5_init cX5_init 1 none, Cond.methodLink RX5 3 objectInit, Cond.instanceMethod objectInit, Cond.code objectInit ⟨#[0xb1]⟩ 1 none, Cond.arrayClass .int, Cond.fieldLink RX5 9 "KeyAtlas$Rows" "keys" "[I", Cond.fieldLink RX5 15 "KeyAtlas$Rows" "values" "[I", Cond.methodLink RX6 11 yX3_init, Cond.instanceMethod yX3_init, Cond.initialized RX3, Cond.code yX3_init cX3_init 4 none, Cond.fieldLink RX3 9 "KeyAtlas$Keyed" "rows" "LKeyAtlas$Rows;", Cond.methodLink RX3 3 yX0_init, Cond.instanceMethod yX0_init]
def wsX6_init_r2 : List Cond := [Cond.initialized RX0, Cond.code yX0_init cX0_init 3 none, Cond.methodLink RX0 1 objectInit, Cond.fieldLink RX0 7 "KeyAtlas$Body" "kind" "I", Cond.fieldLink RX0 13 "KeyAtlas$Body" "whole" "I"]
def wsX6_init : List Cond := .code yX6_init cX6_init 2 none :: ((wsX6_init_r1 ++ wsX6_init_r2) ++ wsX50 ++ wsX60 ++ wsX20 ++ wsX40 ++ wsX10)
def wsX7_init : List Cond := .code yX7_init cX7_init 1 none :: ([.methodLink RX7 1 objectInit, .instanceMethod objectInit, .code objectInit ⟨#[0xb1]⟩ 1 none, .classLink RX7 9 RX0, .fieldLink RX7 11 "KeyAtlas" "bodies" "[LKeyAtlas$Body;"] ++ wsX70)
def wsX7_areInRange : List Cond := .code yX7_areInRange cX7_areInRange 3 (some .boolean) :: ([])
def wsX7_newMap_r1 : List Cond := [Cond.classLink RX7 223 RX2, Cond.instantiable RX2 7, Cond.initialized RX2, Cond.classLink RX7 228 RX4, Cond.instantiable RX4 5, Cond.initialized RX4, Cond.classLink RX7 147 RX6, Cond.instantiable RX6 7, Cond.initialized RX6, Cond.methodLink RX7 225 yX2_init, Cond.instanceMethod yX2_init, Cond.code yX2_init cX2_init 3 none, Cond.classLink RX2 3 RX5, Cond.instantiable RX5 4, Cond.initialized RX5, Cond.arrayClass .boolean, Cond.fieldLink RX2 14 "KeyAtlas$Hash" "bushy" "[Z", Cond.fieldLink RX2 20 "KeyAtlas$Hash" "capacity" "I", Cond.fieldLink RX2 24 "KeyAtlas$Hash" "rule" "I", Cond.instanceMethod yX5_init, Cond.code yX5_init cX5_init 1 none, Cond.methodLink RX5 3 objectInit, Cond.instanceMethod objectInit, Cond.code objectInit ⟨#[0xb1]⟩ 1 none]
def wsX7_newMap_r2 : List Cond := [Cond.arrayClass .int, Cond.fieldLink RX5 9 "KeyAtlas$Rows" "keys" "[I", Cond.fieldLink RX5 15 "KeyAtlas$Rows" "values" "[I", Cond.methodLink RX2 9 yX3_init, Cond.instanceMethod yX3_init, Cond.initialized RX3, Cond.code yX3_init cX3_init 4 none, Cond.fieldLink RX3 9 "KeyAtlas$Keyed" "rows" "LKeyAtlas$Rows;", Cond.methodLink RX3 3 yX0_init, Cond.instanceMethod yX0_init, Cond.initialized RX0, Cond.code yX0_init cX0_init 3 none, Cond.methodLink RX0 1 objectInit, Cond.fieldLink RX0 7 "KeyAtlas$Body" "kind" "I", Cond.fieldLink RX0 13 "KeyAtlas$Body" "whole" "I", Cond.methodLink RX7 230 yX4_init, Cond.instanceMethod yX4_init, Cond.code yX4_init cX4_init 3 none, Cond.classLink RX4 3 RX5, Cond.fieldLink RX4 14 "KeyAtlas$Linked" "limit" "I", Cond.fieldLink RX4 20 "KeyAtlas$Linked" "isByUse" "Z", Cond.methodLink RX4 9 yX3_init, Cond.methodLink RX7 233 yX6_init, Cond.instanceMethod yX6_init]
def wsX7_newMap_r3 : List Cond := [Cond.code yX6_init cX6_init 2 none, Cond.classLink RX6 5 RX5, Cond.fieldLink RX6 16 "KeyAtlas$Sorted" "order" "I", Cond.fieldLink RX6 22 "KeyAtlas$Sorted" "isTurned" "Z", Cond.constantLong RX6 26 (-9223372036854775808), Cond.fieldLink RX6 28 "KeyAtlas$Sorted" "low" "J", Cond.constantLong RX6 32 (9223372036854775807), Cond.fieldLink RX6 34 "KeyAtlas$Sorted" "high" "J", Cond.methodLink RX6 11 yX3_init]
def wsX7_newMap : List Cond := .code yX7_newMap cX7_newMap 3 (some (.object "KeyAtlas$Keyed")) :: ((wsX7_newMap_r1 ++ (wsX7_newMap_r2 ++ wsX7_newMap_r3)) ++ wsX20 ++ wsX40 ++ wsX60 ++ wsX50 ++ wsX10)
def wsX7_settle : List Cond := .code yX7_settle cX7_settle 3 (some .int) :: ([.classLink RX7 170 "java/lang/IllegalStateException", .initialized "java/lang/IllegalStateException", .fieldLink RX7 11 "KeyAtlas" "bodies" "[LKeyAtlas$Body;"] ++ wsX70 ++ (vx_atS RX7 174 "java/lang/IllegalStateException" ["java/lang/RuntimeException", "java/lang/Exception"]).filter goodWord)
def wsX7_make_r1 : List Cond := [Cond.classLink RX7 15 "java/lang/IllegalArgumentException", Cond.initialized "java/lang/IllegalArgumentException", Cond.classLink RX7 22 RJxde1cd, Cond.instantiable RJxde1cd 6, Cond.initialized RJxde1cd, Cond.methodLink RX7 27 yX7_areInRange, Cond.static yX7_areInRange, Cond.initialized RX7, Cond.code yX7_areInRange cX7_areInRange 3 (some .boolean), Cond.methodLink RX7 33 yX7_newMap, Cond.static yX7_newMap, Cond.code yX7_newMap cX7_newMap 3 (some (.object "KeyAtlas$Keyed")), Cond.classLink RX7 223 RX2, Cond.instantiable RX2 7, Cond.initialized RX2, Cond.classLink RX7 228 RX4, Cond.instantiable RX4 5, Cond.initialized RX4, Cond.classLink RX7 147 RX6, Cond.instantiable RX6 7, Cond.initialized RX6, Cond.methodLink RX7 225 yX2_init, Cond.instanceMethod yX2_init, Cond.code yX2_init cX2_init 3 none]
def wsX7_make_r2 : List Cond := [Cond.classLink RX2 3 RX5, Cond.instantiable RX5 4, Cond.initialized RX5, Cond.arrayClass .boolean, Cond.fieldLink RX2 14 "KeyAtlas$Hash" "bushy" "[Z", Cond.fieldLink RX2 20 "KeyAtlas$Hash" "capacity" "I", Cond.fieldLink RX2 24 "KeyAtlas$Hash" "rule" "I", Cond.instanceMethod yX5_init, Cond.code yX5_init cX5_init 1 none, Cond.methodLink RX5 3 objectInit, Cond.instanceMethod objectInit, Cond.code objectInit ⟨#[0xb1]⟩ 1 none, Cond.arrayClass .int, Cond.fieldLink RX5 9 "KeyAtlas$Rows" "keys" "[I", Cond.fieldLink RX5 15 "KeyAtlas$Rows" "values" "[I", Cond.methodLink RX2 9 yX3_init, Cond.instanceMethod yX3_init, Cond.initialized RX3, Cond.code yX3_init cX3_init 4 none, Cond.fieldLink RX3 9 "KeyAtlas$Keyed" "rows" "LKeyAtlas$Rows;", Cond.methodLink RX3 3 yX0_init, Cond.instanceMethod yX0_init, Cond.initialized RX0, Cond.code yX0_init cX0_init 3 none]
def wsX7_make_r3 : List Cond := [Cond.methodLink RX0 1 objectInit, Cond.fieldLink RX0 7 "KeyAtlas$Body" "kind" "I", Cond.fieldLink RX0 13 "KeyAtlas$Body" "whole" "I", Cond.methodLink RX7 230 yX4_init, Cond.instanceMethod yX4_init, Cond.code yX4_init cX4_init 3 none, Cond.classLink RX4 3 RX5, Cond.fieldLink RX4 14 "KeyAtlas$Linked" "limit" "I", Cond.fieldLink RX4 20 "KeyAtlas$Linked" "isByUse" "Z", Cond.methodLink RX4 9 yX3_init, Cond.methodLink RX7 233 yX6_init, Cond.instanceMethod yX6_init, Cond.code yX6_init cX6_init 2 none, Cond.classLink RX6 5 RX5, Cond.fieldLink RX6 16 "KeyAtlas$Sorted" "order" "I", Cond.fieldLink RX6 22 "KeyAtlas$Sorted" "isTurned" "Z", Cond.constantLong RX6 26 (-9223372036854775808), Cond.fieldLink RX6 28 "KeyAtlas$Sorted" "low" "J", Cond.constantLong RX6 32 (9223372036854775807), Cond.fieldLink RX6 34 "KeyAtlas$Sorted" "high" "J", Cond.methodLink RX6 11 yX3_init, Cond.methodLink RX7 37 yX7_settle, Cond.instanceMethod yX7_settle, Cond.selects RX7 yX7_settle yX7_settle]
def wsX7_make_r4 : List Cond := [Cond.code yX7_settle cX7_settle 3 (some .int), Cond.classLink RX7 170 "java/lang/IllegalStateException", Cond.initialized "java/lang/IllegalStateException", Cond.fieldLink RX7 11 "KeyAtlas" "bodies" "[LKeyAtlas$Body;"]
def wsX7_make : List Cond := .code yX7_make cX7_make 4 (some .int) :: ((wsX7_make_r1 ++ (wsX7_make_r2 ++ (wsX7_make_r3 ++ wsX7_make_r4))) ++ wsJxde1cd0 ++ wsX20 ++ wsX40 ++ wsX60 ++ wsX50 ++ wsX10 ++ wsX70 ++ (vx_atS RX7 19 "java/lang/IllegalArgumentException" ["java/lang/RuntimeException", "java/lang/Exception"]).filter goodWord ++ (vx_atS RX7 174 "java/lang/IllegalStateException" ["java/lang/RuntimeException", "java/lang/Exception"]).filter goodWord)
def wsX7_bodyOrNull : List Cond := .code yX7_bodyOrNull cX7_bodyOrNull 2 (some (.object "KeyAtlas$Body")) :: ([.fieldLink RX7 11 "KeyAtlas" "bodies" "[LKeyAtlas$Body;"] ++ wsX70)
def wsX7_howManyBodies : List Cond := .code yX7_howManyBodies cX7_howManyBodies 3 (some .int) :: ([.fieldLink RX7 11 "KeyAtlas" "bodies" "[LKeyAtlas$Body;"] ++ wsX70)
def wsX7_kindOf : List Cond := .code yX7_kindOf cX7_kindOf 3 (some .int) :: ([.fieldLink RX7 258 "KeyAtlas$Body" "kind" "I", .methodLink RX7 236 yX7_bodyOrNull, .instanceMethod yX7_bodyOrNull, .selects RX7 yX7_bodyOrNull yX7_bodyOrNull, .initialized RX7, .code yX7_bodyOrNull cX7_bodyOrNull 2 (some (.object "KeyAtlas$Body")), .fieldLink RX7 11 "KeyAtlas" "bodies" "[LKeyAtlas$Body;"] ++ wsX10 ++ wsX20 ++ wsX40 ++ wsX60 ++ wsX70)
def wsX8_init : List Cond := .code yX8_init cX8_init 1 none :: ([.methodLink RX8 1 objectInit, .instanceMethod objectInit, .code objectInit ⟨#[0xb1]⟩ 1 none, .arrayClass .int, .fieldLink RX8 7 "KeyAtlasModel" "kind" "[I", .constant RX8 13 (67200), .fieldLink RX8 14 "KeyAtlasModel" "cell" "[I", .fieldLink RX8 17 "KeyAtlasModel" "size" "[I", .fieldLink RX8 20 "KeyAtlasModel" "first" "[I", .fieldLink RX8 23 "KeyAtlasModel" "second" "[I", .fieldLink RX8 26 "KeyAtlasModel" "table" "[I", .fieldLink RX8 29 "KeyAtlasModel" "changes" "[I", .fieldLink RX8 32 "KeyAtlasModel" "parent" "[I", .fieldLink RX8 35 "KeyAtlasModel" "from" "[I", .fieldLink RX8 38 "KeyAtlasModel" "to" "[I", .fieldLink RX8 41 "KeyAtlasModel" "way" "[I", .fieldLink RX8 44 "KeyAtlasModel" "seen" "[I", .fieldLink RX8 47 "KeyAtlasModel" "keys" "[I", .fieldLink RX8 50 "KeyAtlasModel" "values" "[I", .arrayClass .boolean, .fieldLink RX8 53 "KeyAtlasModel" "bushy" "[Z", .fieldLink RX8 57 "KeyAtlasModel" "gone" "[Z"] ++ wsX80)
def wsX8_thrown : List Cond := .code yX8_thrown cX8_thrown 1 (some .int) :: ([.fieldLink RX8 60 "KeyAtlasModel" "thrown" "I"] ++ wsX80)
def wsX8_refuse : List Cond := .code yX8_refuse cX8_refuse 2 (some .int) :: ([.fieldLink RX8 60 "KeyAtlasModel" "thrown" "I"] ++ wsX80)
def wsX8_in : List Cond := .code yX8_in cX8_in 3 (some .boolean) :: ([])
def wsX8_isThere : List Cond := .code yX8_isThere cX8_isThere 2 (some .boolean) :: ([.fieldLink RX8 7 "KeyAtlasModel" "kind" "[I", .methodLink RX8 64 yX8_in, .static yX8_in, .initialized RX8, .code yX8_in cX8_in 3 (some .boolean)] ++ wsX80)
def wsX8_free : List Cond := .code yX8_free cX8_free 2 (some .int) :: ([.fieldLink RX8 7 "KeyAtlasModel" "kind" "[I"] ++ wsX80)
def wsX8_born : List Cond := .code yX8_born cX8_born 3 (some .int) :: ([.fieldLink RX8 7 "KeyAtlasModel" "kind" "[I", .fieldLink RX8 17 "KeyAtlasModel" "size" "[I", .fieldLink RX8 26 "KeyAtlasModel" "table" "[I", .fieldLink RX8 29 "KeyAtlasModel" "changes" "[I", .fieldLink RX8 32 "KeyAtlasModel" "parent" "[I"] ++ wsX80)
def wsX8_make : List Cond := .code yX8_make cX8_make 6 (some .int) :: ([.fieldLink RX8 60 "KeyAtlasModel" "thrown" "I", .fieldLink RX8 20 "KeyAtlasModel" "first" "[I", .fieldLink RX8 23 "KeyAtlasModel" "second" "[I", .methodLink RX8 64 yX8_in, .static yX8_in, .initialized RX8, .code yX8_in cX8_in 3 (some .boolean), .methodLink RX8 68 yX8_refuse, .instanceMethod yX8_refuse, .selects RX8 yX8_refuse yX8_refuse, .code yX8_refuse cX8_refuse 2 (some .int), .methodLink RX8 72 yX8_free, .instanceMethod yX8_free, .selects RX8 yX8_free yX8_free, .code yX8_free cX8_free 2 (some .int), .fieldLink RX8 7 "KeyAtlasModel" "kind" "[I", .methodLink RX8 76 yX8_born, .instanceMethod yX8_born, .selects RX8 yX8_born yX8_born, .code yX8_born cX8_born 3 (some .int), .fieldLink RX8 17 "KeyAtlasModel" "size" "[I", .fieldLink RX8 26 "KeyAtlasModel" "table" "[I", .fieldLink RX8 29 "KeyAtlasModel" "changes" "[I", .fieldLink RX8 32 "KeyAtlasModel" "parent" "[I"] ++ wsX80)
def wsX8_isMap : List Cond := .code yX8_isMap cX8_isMap 2 (some .boolean) :: ([.fieldLink RX8 7 "KeyAtlasModel" "kind" "[I"] ++ wsX80)
theorem dX0_init_0 : decode cX0_init 0 = .ok (.aload_n 0, 1) := by decide +kernel
theorem dX0_init_1 : decode cX0_init 1 = .ok (.invokespecial 1, 3) := by decide +kernel
theorem dX0_init_4 : decode cX0_init 4 = .ok (.aload_n 0, 1) := by decide +kernel
theorem dX0_init_5 : decode cX0_init 5 = .ok (.iload_n 1, 1) := by decide +kernel
theorem dX0_init_6 : decode cX0_init 6 = .ok (.putfield 7, 3) := by decide +kernel
theorem dX0_init_9 : decode cX0_init 9 = .ok (.aload_n 0, 1) := by decide +kernel
theorem dX0_init_10 : decode cX0_init 10 = .ok (.iload_n 2, 1) := by decide +kernel
theorem dX0_init_11 : decode cX0_init 11 = .ok (.putfield 13, 3) := by decide +kernel
theorem dX0_init_14 : decode cX0_init 14 = .ok (.return_, 1) := by decide +kernel
set_option maxRecDepth 20000 in
theorem ggX2_init_X5_init : GoodIn wsX2_init wsX5_init := goodIn_r _ [9, 10, 11, 12, 13, 14, 15, 28, 29, 30, 31] (by decide +kernel) (by decide +kernel)
set_option maxRecDepth 20000 in
theorem gX2_init_X5_init_n5 : GoodIn wsX2_init (wsX5_init) := ggX2_init_X5_init
set_option maxRecDepth 20000 in
theorem ggX2_init_X3_init : GoodIn wsX2_init wsX3_init := goodIn_r _ [19, 20, 21, 22, 23, 24, 25, 11, 12, 26, 27, 32, 33, 34, 35, 36, 37, 38, 39, 40, 41, 42, 43, 44, 45, 46, 47, 48, 49, 50, 51, 52, 53, 54, 55, 56] (by decide +kernel) (by decide +kernel)
set_option maxRecDepth 20000 in
theorem gX2_init_X3_init : GoodIn wsX2_init (wsX3_init) := ggX2_init_X3_init
theorem dX2_init_0 : decode cX2_init 0 = .ok (.aload_n 0, 1) := by decide +kernel
theorem dX2_init_1 : decode cX2_init 1 = .ok (.iconst 0, 1) := by decide +kernel
theorem dX2_init_2 : decode cX2_init 2 = .ok (.iconst (-1), 1) := by decide +kernel
theorem dX2_init_3 : decode cX2_init 3 = .ok (.new 3, 3) := by decide +kernel
theorem dX2_init_6 : decode cX2_init 6 = .ok (.dup, 1) := by decide +kernel
theorem dX2_init_7 : decode cX2_init 7 = .ok (.invokespecial 5, 3) := by decide +kernel
theorem dX2_init_10 : decode cX2_init 10 = .ok (.invokespecial 9, 3) := by decide +kernel
theorem dX2_init_13 : decode cX2_init 13 = .ok (.aload_n 0, 1) := by decide +kernel
theorem dX2_init_14 : decode cX2_init 14 = .ok (.iconst 0, 1) := by decide +kernel
theorem dX2_init_15 : decode cX2_init 15 = .ok (.newarray .boolean, 2) := by decide +kernel
theorem dX2_init_17 : decode cX2_init 17 = .ok (.putfield 14, 3) := by decide +kernel
theorem dX2_init_20 : decode cX2_init 20 = .ok (.aload_n 0, 1) := by decide +kernel
theorem dX2_init_21 : decode cX2_init 21 = .ok (.iload_n 1, 1) := by decide +kernel
theorem dX2_init_22 : decode cX2_init 22 = .ok (.putfield 20, 3) := by decide +kernel
theorem dX2_init_25 : decode cX2_init 25 = .ok (.aload_n 0, 1) := by decide +kernel
theorem dX2_init_26 : decode cX2_init 26 = .ok (.iload_n 2, 1) := by decide +kernel
theorem dX2_init_27 : decode cX2_init 27 = .ok (.putfield 24, 3) := by decide +kernel
theorem dX2_init_30 : decode cX2_init 30 = .ok (.return_, 1) := by decide +kernel
set_option maxRecDepth 20000 in
theorem ggX3_init_X0_init : GoodIn wsX3_init wsX0_init := goodIn_r _ [5, 6, 7, 8, 9, 10, 30, 31, 32, 33, 34, 35, 11, 12, 13, 14, 15, 16, 17, 18, 19, 20, 21, 22, 23, 24, 25, 26, 27, 28, 29] (by decide +kernel) (by decide +kernel)
set_option maxRecDepth 20000 in
theorem gX3_init_X0_init : GoodIn wsX3_init (wsX0_init) := ggX3_init_X0_init
theorem dX3_init_0 : decode cX3_init 0 = .ok (.aload_n 0, 1) := by decide +kernel
theorem dX3_init_1 : decode cX3_init 1 = .ok (.iload_n 1, 1) := by decide +kernel
theorem dX3_init_2 : decode cX3_init 2 = .ok (.iload_n 2, 1) := by decide +kernel
theorem dX3_init_3 : decode cX3_init 3 = .ok (.invokespecial 3, 3) := by decide +kernel
theorem dX3_init_6 : decode cX3_init 6 = .ok (.aload_n 0, 1) := by decide +kernel
theorem dX3_init_7 : decode cX3_init 7 = .ok (.aload_n 3, 1) := by decide +kernel
theorem dX3_init_8 : decode cX3_init 8 = .ok (.putfield 9, 3) := by decide +kernel
theorem dX3_init_11 : decode cX3_init 11 = .ok (.return_, 1) := by decide +kernel
set_option maxRecDepth 20000 in
theorem ggX4_init_X5_init : GoodIn wsX4_init wsX5_init := goodIn_r _ [7, 8, 9, 10, 11, 12, 13, 26, 27, 28, 29] (by decide +kernel) (by decide +kernel)
set_option maxRecDepth 20000 in
theorem gX4_init_X5_init_n5 : GoodIn wsX4_init (wsX5_init) := ggX4_init_X5_init
set_option maxRecDepth 20000 in
theorem ggX4_init_X3_init : GoodIn wsX4_init wsX3_init := goodIn_r _ [17, 18, 19, 20, 21, 22, 23, 9, 10, 24, 25, 35, 36, 37, 38, 39, 40, 41, 30, 31, 32, 33, 34, 42, 43, 44, 45, 46, 47, 48, 49, 50, 51, 52, 53, 54] (by decide +kernel) (by decide +kernel)
set_option maxRecDepth 20000 in
theorem gX4_init_X3_init : GoodIn wsX4_init (wsX3_init) := ggX4_init_X3_init
theorem dX4_init_0 : decode cX4_init 0 = .ok (.aload_n 0, 1) := by decide +kernel
theorem dX4_init_1 : decode cX4_init 1 = .ok (.iconst 1, 1) := by decide +kernel
theorem dX4_init_2 : decode cX4_init 2 = .ok (.iconst (-1), 1) := by decide +kernel
theorem dX4_init_3 : decode cX4_init 3 = .ok (.new 3, 3) := by decide +kernel
theorem dX4_init_6 : decode cX4_init 6 = .ok (.dup, 1) := by decide +kernel
theorem dX4_init_7 : decode cX4_init 7 = .ok (.invokespecial 5, 3) := by decide +kernel
theorem dX4_init_10 : decode cX4_init 10 = .ok (.invokespecial 9, 3) := by decide +kernel
theorem dX4_init_13 : decode cX4_init 13 = .ok (.aload_n 0, 1) := by decide +kernel
theorem dX4_init_14 : decode cX4_init 14 = .ok (.iload_n 1, 1) := by decide +kernel
theorem dX4_init_15 : decode cX4_init 15 = .ok (.putfield 14, 3) := by decide +kernel
theorem dX4_init_18 : decode cX4_init 18 = .ok (.aload_n 0, 1) := by decide +kernel
theorem dX4_init_19 : decode cX4_init 19 = .ok (.iload_n 2, 1) := by decide +kernel
theorem dX4_init_20 : decode cX4_init 20 = .ok (.putfield 20, 3) := by decide +kernel
theorem dX4_init_23 : decode cX4_init 23 = .ok (.return_, 1) := by decide +kernel
theorem dX5_init_0 : decode cX5_init 0 = .ok (.aload_n 0, 1) := by decide +kernel
theorem dX5_init_1 : decode cX5_init 1 = .ok (.invokespecial 3, 3) := by decide +kernel
theorem dX5_init_4 : decode cX5_init 4 = .ok (.aload_n 0, 1) := by decide +kernel
theorem dX5_init_5 : decode cX5_init 5 = .ok (.bipush 16, 2) := by decide +kernel
theorem dX5_init_7 : decode cX5_init 7 = .ok (.newarray .int, 2) := by decide +kernel
theorem dX5_init_9 : decode cX5_init 9 = .ok (.putfield 9, 3) := by decide +kernel
theorem dX5_init_12 : decode cX5_init 12 = .ok (.aload_n 0, 1) := by decide +kernel
theorem dX5_init_13 : decode cX5_init 13 = .ok (.bipush 16, 2) := by decide +kernel
theorem dX5_init_15 : decode cX5_init 15 = .ok (.newarray .int, 2) := by decide +kernel
theorem dX5_init_17 : decode cX5_init 17 = .ok (.putfield 15, 3) := by decide +kernel
theorem dX5_init_20 : decode cX5_init 20 = .ok (.return_, 1) := by decide +kernel
set_option maxRecDepth 20000 in
theorem ggX6_init_X5_init : GoodIn wsX6_init wsX5_init := goodIn_r _ [11, 12, 13, 14, 15, 16, 17, 30, 31, 32, 33] (by decide +kernel) (by decide +kernel)
set_option maxRecDepth 20000 in
theorem gX6_init_X5_init_n7 : GoodIn wsX6_init (wsX5_init) := ggX6_init_X5_init
set_option maxRecDepth 20000 in
theorem ggX6_init_X3_init : GoodIn wsX6_init wsX3_init := goodIn_r _ [21, 22, 23, 24, 25, 26, 27, 13, 14, 28, 29, 41, 42, 43, 44, 45, 46, 47, 48, 49, 50, 51, 52, 34, 35, 36, 37, 38, 39, 40, 53, 54, 55, 56, 57, 58] (by decide +kernel) (by decide +kernel)
set_option maxRecDepth 20000 in
theorem gX6_init_X3_init : GoodIn wsX6_init (wsX3_init) := ggX6_init_X3_init
theorem dX6_init_0 : decode cX6_init 0 = .ok (.aload_n 0, 1) := by decide +kernel
theorem dX6_init_1 : decode cX6_init 1 = .ok (.iconst 2, 1) := by decide +kernel
theorem dX6_init_2 : decode cX6_init 2 = .ok (.iconst (-1), 1) := by decide +kernel
theorem dX6_init_3 : decode cX6_init 3 = .ok (.new 5, 3) := by decide +kernel
theorem dX6_init_6 : decode cX6_init 6 = .ok (.dup, 1) := by decide +kernel
theorem dX6_init_7 : decode cX6_init 7 = .ok (.invokespecial 7, 3) := by decide +kernel
theorem dX6_init_10 : decode cX6_init 10 = .ok (.invokespecial 11, 3) := by decide +kernel
theorem dX6_init_13 : decode cX6_init 13 = .ok (.aload_n 0, 1) := by decide +kernel
theorem dX6_init_14 : decode cX6_init 14 = .ok (.iload_n 1, 1) := by decide +kernel
theorem dX6_init_15 : decode cX6_init 15 = .ok (.putfield 16, 3) := by decide +kernel
theorem dX6_init_18 : decode cX6_init 18 = .ok (.aload_n 0, 1) := by decide +kernel
theorem dX6_init_19 : decode cX6_init 19 = .ok (.iconst 0, 1) := by decide +kernel
theorem dX6_init_20 : decode cX6_init 20 = .ok (.putfield 22, 3) := by decide +kernel
theorem dX6_init_23 : decode cX6_init 23 = .ok (.aload_n 0, 1) := by decide +kernel
theorem dX6_init_24 : decode cX6_init 24 = .ok (.ldc2_w 26, 3) := by decide +kernel
theorem dX6_init_27 : decode cX6_init 27 = .ok (.putfield 28, 3) := by decide +kernel
theorem dX6_init_30 : decode cX6_init 30 = .ok (.aload_n 0, 1) := by decide +kernel
theorem dX6_init_31 : decode cX6_init 31 = .ok (.ldc2_w 32, 3) := by decide +kernel
theorem dX6_init_34 : decode cX6_init 34 = .ok (.putfield 34, 3) := by decide +kernel
theorem dX6_init_37 : decode cX6_init 37 = .ok (.return_, 1) := by decide +kernel
theorem dX7_init_0 : decode cX7_init 0 = .ok (.aload_n 0, 1) := by decide +kernel
theorem dX7_init_1 : decode cX7_init 1 = .ok (.invokespecial 1, 3) := by decide +kernel
theorem dX7_init_4 : decode cX7_init 4 = .ok (.aload_n 0, 1) := by decide +kernel
theorem dX7_init_5 : decode cX7_init 5 = .ok (.bipush 16, 2) := by decide +kernel
theorem dX7_init_7 : decode cX7_init 7 = .ok (.anewarray 9, 3) := by decide +kernel
theorem dX7_init_10 : decode cX7_init 10 = .ok (.putfield 11, 3) := by decide +kernel
theorem dX7_init_13 : decode cX7_init 13 = .ok (.return_, 1) := by decide +kernel
set_option maxRecDepth 20000 in
theorem ggX7_make_X7_areInRange : GoodIn wsX7_make wsX7_areInRange := goodIn_r _ [9] (by decide +kernel) (by decide +kernel)
set_option maxRecDepth 20000 in
theorem gX7_make_X7_areInRange : GoodIn wsX7_make (va_wsS RX7 27 yX7_areInRange wsX7_areInRange) := goodIn_app (goodIn_of _ (by decide +kernel)) ggX7_make_X7_areInRange
set_option maxRecDepth 20000 in
theorem ggX7_make_X7_newMap : GoodIn wsX7_make wsX7_newMap := goodIn_r _ [12, 13, 14, 15, 16, 17, 18, 19, 20, 21, 22, 23, 24, 25, 26, 27, 28, 29, 30, 31, 32, 33, 34, 35, 36, 37, 38, 39, 40, 41, 42, 43, 44, 45, 46, 47, 48, 49, 50, 51, 52, 53, 54, 55, 56, 57, 58, 59, 60, 61, 62, 63, 64, 65, 66, 67, 68, 69, 83, 84, 85, 86, 87, 88, 89, 90, 91, 92, 93, 94, 95, 96, 97, 98, 99, 100, 101, 102, 103, 104, 105, 106, 107, 108, 109, 110, 111] (by decide +kernel) (by decide +kernel)
set_option maxRecDepth 20000 in
theorem gX7_make_X7_newMap : GoodIn wsX7_make (va_wsS RX7 33 yX7_newMap wsX7_newMap) := goodIn_app (goodIn_of _ (by decide +kernel)) ggX7_make_X7_newMap
set_option maxRecDepth 20000 in
theorem ggX7_make_X7_settle : GoodIn wsX7_make wsX7_settle := goodIn_ca (goodIn_r _ [73, 74, 75, 76, 112] (by decide +kernel) (by decide +kernel)) (goodIn_sub (fun _ h => List.mem_cons_of_mem _ (List.mem_append_right _ h)) (by decide +kernel))
set_option maxRecDepth 20000 in
theorem gX7_make_X7_settle : GoodIn wsX7_make (wsV RX7 37 RX7 yX7_settle wsX7_settle) := goodIn_app (goodIn_of _ (by decide +kernel)) ggX7_make_X7_settle
theorem dX7_make_0 : decode cX7_make 0 = .ok (.iload_n 1, 1) := by decide +kernel
theorem dX7_make_1 : decode cX7_make 1 = .ok (.ifCond .lt 8, 3) := by decide +kernel
theorem dX7_make_4 : decode cX7_make 4 = .ok (.iload_n 1, 1) := by decide +kernel
theorem dX7_make_5 : decode cX7_make 5 = .ok (.iconst 2, 1) := by decide +kernel
theorem dX7_make_6 : decode cX7_make 6 = .ok (.if_icmp .le 13, 3) := by decide +kernel
theorem dX7_make_9 : decode cX7_make 9 = .ok (.new 15, 3) := by decide +kernel
theorem dX7_make_12 : decode cX7_make 12 = .ok (.dup, 1) := by decide +kernel
theorem dX7_make_13 : decode cX7_make 13 = .ok (.ldc 17, 2) := by decide +kernel
theorem dX7_make_15 : decode cX7_make 15 = .ok (.invokespecial 19, 3) := by decide +kernel
theorem dX7_make_18 : decode cX7_make 18 = .ok (.athrow, 1) := by decide +kernel
theorem dX7_make_19 : decode cX7_make 19 = .ok (.iload_n 1, 1) := by decide +kernel
theorem dX7_make_20 : decode cX7_make 20 = .ok (.ifCond .ne 17, 3) := by decide +kernel
theorem dX7_make_23 : decode cX7_make 23 = .ok (.iload_n 2, 1) := by decide +kernel
theorem dX7_make_24 : decode cX7_make 24 = .ok (.ifCond .ge 13, 3) := by decide +kernel
theorem dX7_make_27 : decode cX7_make 27 = .ok (.new 22, 3) := by decide +kernel
theorem dX7_make_30 : decode cX7_make 30 = .ok (.dup, 1) := by decide +kernel
theorem dX7_make_31 : decode cX7_make 31 = .ok (.ldc 24, 2) := by decide +kernel
theorem dX7_make_33 : decode cX7_make 33 = .ok (.invokespecial 26, 3) := by decide +kernel
theorem dX7_make_36 : decode cX7_make 36 = .ok (.athrow, 1) := by decide +kernel
theorem dX7_make_37 : decode cX7_make 37 = .ok (.iload_n 1, 1) := by decide +kernel
theorem dX7_make_38 : decode cX7_make 38 = .ok (.iload_n 2, 1) := by decide +kernel
theorem dX7_make_39 : decode cX7_make 39 = .ok (.iload_n 3, 1) := by decide +kernel
theorem dX7_make_40 : decode cX7_make 40 = .ok (.invokestatic 27, 3) := by decide +kernel
theorem dX7_make_43 : decode cX7_make 43 = .ok (.ifCond .ne 13, 3) := by decide +kernel
theorem dX7_make_46 : decode cX7_make 46 = .ok (.new 15, 3) := by decide +kernel
theorem dX7_make_49 : decode cX7_make 49 = .ok (.dup, 1) := by decide +kernel
theorem dX7_make_50 : decode cX7_make 50 = .ok (.ldc 31, 2) := by decide +kernel
theorem dX7_make_52 : decode cX7_make 52 = .ok (.invokespecial 19, 3) := by decide +kernel
theorem dX7_make_55 : decode cX7_make 55 = .ok (.athrow, 1) := by decide +kernel
theorem dX7_make_56 : decode cX7_make 56 = .ok (.aload_n 0, 1) := by decide +kernel
theorem dX7_make_57 : decode cX7_make 57 = .ok (.iload_n 1, 1) := by decide +kernel
theorem dX7_make_58 : decode cX7_make 58 = .ok (.iload_n 2, 1) := by decide +kernel
theorem dX7_make_59 : decode cX7_make 59 = .ok (.iload_n 3, 1) := by decide +kernel
theorem dX7_make_60 : decode cX7_make 60 = .ok (.invokestatic 33, 3) := by decide +kernel
theorem dX7_make_63 : decode cX7_make 63 = .ok (.invokevirtual 37, 3) := by decide +kernel
theorem dX7_make_66 : decode cX7_make 66 = .ok (.ireturn, 1) := by decide +kernel
theorem dX7_drop_0 : decode cX7_drop 0 = .ok (.aload_n 0, 1) := by decide +kernel
theorem dX7_drop_1 : decode cX7_drop 1 = .ok (.iload_n 1, 1) := by decide +kernel
theorem dX7_drop_2 : decode cX7_drop 2 = .ok (.invokevirtual 41, 3) := by decide +kernel
theorem dX7_map_0 : decode cX7_map 0 = .ok (.aload_n 0, 1) := by decide +kernel
theorem dX7_map_1 : decode cX7_map 1 = .ok (.iload_n 1, 1) := by decide +kernel
theorem dX7_map_2 : decode cX7_map 2 = .ok (.invokevirtual 41, 3) := by decide +kernel
theorem dX7_view_0 : decode cX7_view 0 = .ok (.aload_n 0, 1) := by decide +kernel
theorem dX7_view_1 : decode cX7_view 1 = .ok (.iload_n 1, 1) := by decide +kernel
theorem dX7_view_2 : decode cX7_view 2 = .ok (.invokevirtual 41, 3) := by decide +kernel
theorem dX7_cursor_0 : decode cX7_cursor 0 = .ok (.aload_n 0, 1) := by decide +kernel
theorem dX7_cursor_1 : decode cX7_cursor 1 = .ok (.new 157, 3) := by decide +kernel
theorem dX7_cursor_4 : decode cX7_cursor 4 = .ok (.dup, 1) := by decide +kernel
theorem dX7_cursor_5 : decode cX7_cursor 5 = .ok (.iload_n 1, 1) := by decide +kernel
theorem dX7_cursor_6 : decode cX7_cursor 6 = .ok (.aload_n 0, 1) := by decide +kernel
theorem dX7_cursor_7 : decode cX7_cursor 7 = .ok (.iload_n 1, 1) := by decide +kernel
theorem dX7_cursor_8 : decode cX7_cursor 8 = .ok (.invokevirtual 41, 3) := by decide +kernel
theorem dX7_move_0 : decode cX7_move 0 = .ok (.aload_n 0, 1) := by decide +kernel
theorem dX7_move_1 : decode cX7_move 1 = .ok (.iload_n 1, 1) := by decide +kernel
theorem dX7_move_2 : decode cX7_move 2 = .ok (.invokevirtual 41, 3) := by decide +kernel
theorem dX7_item_0 : decode cX7_item 0 = .ok (.aload_n 0, 1) := by decide +kernel
theorem dX7_item_1 : decode cX7_item 1 = .ok (.iload_n 1, 1) := by decide +kernel
theorem dX7_item_2 : decode cX7_item 2 = .ok (.invokevirtual 41, 3) := by decide +kernel
theorem dX7_count_0 : decode cX7_count 0 = .ok (.iload_n 1, 1) := by decide +kernel
theorem dX7_count_1 : decode cX7_count 1 = .ok (.ifCond .ne 8, 3) := by decide +kernel
theorem dX7_count_4 : decode cX7_count 4 = .ok (.aload_n 0, 1) := by decide +kernel
theorem dX7_count_5 : decode cX7_count 5 = .ok (.invokevirtual 212, 3) := by decide +kernel
theorem dX7_count_8 : decode cX7_count 8 = .ok (.ireturn, 1) := by decide +kernel
theorem dX7_count_9 : decode cX7_count 9 = .ok (.iload_n 1, 1) := by decide +kernel
theorem dX7_count_10 : decode cX7_count 10 = .ok (.bipush 10, 2) := by decide +kernel
theorem dX7_count_12 : decode cX7_count 12 = .ok (.if_icmp .lt 18, 3) := by decide +kernel
theorem dX7_count_15 : decode cX7_count 15 = .ok (.iload_n 1, 1) := by decide +kernel
theorem dX7_count_16 : decode cX7_count 16 = .ok (.bipush 26, 2) := by decide +kernel
theorem dX7_count_18 : decode cX7_count 18 = .ok (.if_icmp .ge 12, 3) := by decide +kernel
theorem dX7_count_21 : decode cX7_count 21 = .ok (.aload_n 0, 1) := by decide +kernel
theorem dX7_count_22 : decode cX7_count 22 = .ok (.iload_n 1, 1) := by decide +kernel
theorem dX7_count_23 : decode cX7_count 23 = .ok (.bipush 10, 2) := by decide +kernel
theorem dX7_count_25 : decode cX7_count 25 = .ok (.isub, 1) := by decide +kernel
theorem dX7_count_26 : decode cX7_count 26 = .ok (.invokevirtual 215, 3) := by decide +kernel
theorem dX7_count_29 : decode cX7_count 29 = .ok (.ireturn, 1) := by decide +kernel
theorem dX7_count_30 : decode cX7_count 30 = .ok (.iload_n 1, 1) := by decide +kernel
theorem dX7_count_31 : decode cX7_count 31 = .ok (.bipush 30, 2) := by decide +kernel
theorem dX7_count_33 : decode cX7_count 33 = .ok (.if_icmp .lt 18, 3) := by decide +kernel
theorem dX7_count_36 : decode cX7_count 36 = .ok (.iload_n 1, 1) := by decide +kernel
theorem dX7_count_37 : decode cX7_count 37 = .ok (.bipush 46, 2) := by decide +kernel
theorem dX7_count_39 : decode cX7_count 39 = .ok (.if_icmp .ge 12, 3) := by decide +kernel
theorem dX7_count_42 : decode cX7_count 42 = .ok (.aload_n 0, 1) := by decide +kernel
theorem dX7_count_43 : decode cX7_count 43 = .ok (.iload_n 1, 1) := by decide +kernel
theorem dX7_count_44 : decode cX7_count 44 = .ok (.bipush 30, 2) := by decide +kernel
theorem dX7_count_46 : decode cX7_count 46 = .ok (.isub, 1) := by decide +kernel
theorem dX7_count_47 : decode cX7_count 47 = .ok (.invokevirtual 218, 3) := by decide +kernel
theorem dX7_count_50 : decode cX7_count 50 = .ok (.ireturn, 1) := by decide +kernel
theorem dX7_count_51 : decode cX7_count 51 = .ok (.new 15, 3) := by decide +kernel
theorem dX7_count_54 : decode cX7_count 54 = .ok (.dup, 1) := by decide +kernel
theorem dX7_count_55 : decode cX7_count 55 = .ok (.ldc 221, 2) := by decide +kernel
theorem dX7_count_57 : decode cX7_count 57 = .ok (.invokespecial 19, 3) := by decide +kernel
theorem dX7_count_60 : decode cX7_count 60 = .ok (.athrow, 1) := by decide +kernel
theorem dX7_areInRange_0 : decode cX7_areInRange 0 = .ok (.iload_n 0, 1) := by decide +kernel
theorem dX7_areInRange_1 : decode cX7_areInRange 1 = .ok (.lookupswitch 79 #[(0, 27), (1, 53)], 27) := by decide +kernel
theorem dX7_areInRange_28 : decode cX7_areInRange 28 = .ok (.iload_n 1, 1) := by decide +kernel
theorem dX7_areInRange_29 : decode cX7_areInRange 29 = .ok (.ifCond .lt 23, 3) := by decide +kernel
theorem dX7_areInRange_32 : decode cX7_areInRange 32 = .ok (.iload_n 1, 1) := by decide +kernel
theorem dX7_areInRange_33 : decode cX7_areInRange 33 = .ok (.sipush 1000, 3) := by decide +kernel
theorem dX7_areInRange_36 : decode cX7_areInRange 36 = .ok (.if_icmp .gt 16, 3) := by decide +kernel
theorem dX7_areInRange_39 : decode cX7_areInRange 39 = .ok (.iload_n 2, 1) := by decide +kernel
theorem dX7_areInRange_40 : decode cX7_areInRange 40 = .ok (.ifCond .lt 12, 3) := by decide +kernel
theorem dX7_areInRange_43 : decode cX7_areInRange 43 = .ok (.iload_n 2, 1) := by decide +kernel
theorem dX7_areInRange_44 : decode cX7_areInRange 44 = .ok (.iconst 3, 1) := by decide +kernel
theorem dX7_areInRange_45 : decode cX7_areInRange 45 = .ok (.if_icmp .gt 7, 3) := by decide +kernel
theorem dX7_areInRange_48 : decode cX7_areInRange 48 = .ok (.iconst 1, 1) := by decide +kernel
theorem dX7_areInRange_49 : decode cX7_areInRange 49 = .ok (.goto 4, 3) := by decide +kernel
theorem dX7_areInRange_52 : decode cX7_areInRange 52 = .ok (.iconst 0, 1) := by decide +kernel
theorem dX7_areInRange_53 : decode cX7_areInRange 53 = .ok (.ireturn, 1) := by decide +kernel
theorem dX7_areInRange_54 : decode cX7_areInRange 54 = .ok (.iload_n 1, 1) := by decide +kernel
theorem dX7_areInRange_55 : decode cX7_areInRange 55 = .ok (.ifCond .lt 23, 3) := by decide +kernel
theorem dX7_areInRange_58 : decode cX7_areInRange 58 = .ok (.iload_n 1, 1) := by decide +kernel
theorem dX7_areInRange_59 : decode cX7_areInRange 59 = .ok (.sipush 1000, 3) := by decide +kernel
theorem dX7_areInRange_62 : decode cX7_areInRange 62 = .ok (.if_icmp .gt 16, 3) := by decide +kernel
theorem dX7_areInRange_65 : decode cX7_areInRange 65 = .ok (.iload_n 2, 1) := by decide +kernel
theorem dX7_areInRange_66 : decode cX7_areInRange 66 = .ok (.ifCond .lt 12, 3) := by decide +kernel
theorem dX7_areInRange_69 : decode cX7_areInRange 69 = .ok (.iload_n 2, 1) := by decide +kernel
theorem dX7_areInRange_70 : decode cX7_areInRange 70 = .ok (.iconst 1, 1) := by decide +kernel
theorem dX7_areInRange_71 : decode cX7_areInRange 71 = .ok (.if_icmp .gt 7, 3) := by decide +kernel
theorem dX7_areInRange_74 : decode cX7_areInRange 74 = .ok (.iconst 1, 1) := by decide +kernel
theorem dX7_areInRange_75 : decode cX7_areInRange 75 = .ok (.goto 4, 3) := by decide +kernel
theorem dX7_areInRange_78 : decode cX7_areInRange 78 = .ok (.iconst 0, 1) := by decide +kernel
theorem dX7_areInRange_79 : decode cX7_areInRange 79 = .ok (.ireturn, 1) := by decide +kernel
theorem dX7_areInRange_80 : decode cX7_areInRange 80 = .ok (.iload_n 1, 1) := by decide +kernel
theorem dX7_areInRange_81 : decode cX7_areInRange 81 = .ok (.ifCond .lt 12, 3) := by decide +kernel
theorem dX7_areInRange_84 : decode cX7_areInRange 84 = .ok (.iload_n 1, 1) := by decide +kernel
theorem dX7_areInRange_85 : decode cX7_areInRange 85 = .ok (.iconst 3, 1) := by decide +kernel
theorem dX7_areInRange_86 : decode cX7_areInRange 86 = .ok (.if_icmp .gt 7, 3) := by decide +kernel
theorem dX7_areInRange_89 : decode cX7_areInRange 89 = .ok (.iconst 1, 1) := by decide +kernel
theorem dX7_areInRange_90 : decode cX7_areInRange 90 = .ok (.goto 4, 3) := by decide +kernel
theorem dX7_areInRange_93 : decode cX7_areInRange 93 = .ok (.iconst 0, 1) := by decide +kernel
theorem dX7_areInRange_94 : decode cX7_areInRange 94 = .ok (.ireturn, 1) := by decide +kernel
set_option maxRecDepth 20000 in
theorem ggX7_newMap_X2_init : GoodIn wsX7_newMap wsX2_init := goodIn_r _ [12, 13, 14, 15, 16, 17, 18, 19, 20, 21, 22, 23, 24, 25, 26, 27, 28, 29, 30, 31, 32, 33, 34, 35, 36, 37, 38, 39, 77, 78, 79, 80, 58, 59, 60, 61, 62, 63, 64, 65, 66, 67, 68, 69, 70, 71, 72, 73, 74, 75, 76, 81, 82, 83, 84, 85, 86] (by decide +kernel) (by decide +kernel)
set_option maxRecDepth 20000 in
theorem gX7_newMap_X2_init : GoodIn wsX7_newMap (wsX2_init) := ggX7_newMap_X2_init
set_option maxRecDepth 20000 in
theorem ggX7_newMap_X4_init : GoodIn wsX7_newMap wsX4_init := goodIn_r _ [42, 43, 14, 15, 44, 45, 20, 21, 22, 23, 24, 25, 26, 27, 46, 29, 30, 31, 32, 33, 34, 35, 36, 37, 38, 39, 77, 78, 79, 80, 65, 66, 67, 68, 69, 58, 59, 60, 61, 62, 63, 64, 70, 71, 72, 73, 74, 75, 76, 81, 82, 83, 84, 85, 86] (by decide +kernel) (by decide +kernel)
set_option maxRecDepth 20000 in
theorem gX7_newMap_X4_init : GoodIn wsX7_newMap (wsX4_init) := ggX7_newMap_X4_init
set_option maxRecDepth 20000 in
theorem ggX7_newMap_X6_init : GoodIn wsX7_newMap wsX6_init := goodIn_r _ [49, 50, 14, 15, 51, 52, 53, 54, 55, 56, 20, 21, 22, 23, 24, 25, 26, 27, 57, 29, 30, 31, 32, 33, 34, 35, 36, 37, 38, 39, 77, 78, 79, 80, 70, 71, 72, 73, 74, 75, 76, 58, 59, 60, 61, 62, 63, 64, 65, 66, 67, 68, 69, 81, 82, 83, 84, 85, 86] (by decide +kernel) (by decide +kernel)
set_option maxRecDepth 20000 in
theorem gX7_newMap_X6_init : GoodIn wsX7_newMap (wsX6_init) := ggX7_newMap_X6_init
theorem dX7_newMap_0 : decode cX7_newMap 0 = .ok (.iload_n 0, 1) := by decide +kernel
theorem dX7_newMap_1 : decode cX7_newMap 1 = .ok (.lookupswitch 56 #[(0, 27), (1, 37)], 27) := by decide +kernel
theorem dX7_newMap_28 : decode cX7_newMap 28 = .ok (.new 223, 3) := by decide +kernel
theorem dX7_newMap_31 : decode cX7_newMap 31 = .ok (.dup, 1) := by decide +kernel
theorem dX7_newMap_32 : decode cX7_newMap 32 = .ok (.iload_n 1, 1) := by decide +kernel
theorem dX7_newMap_33 : decode cX7_newMap 33 = .ok (.iload_n 2, 1) := by decide +kernel
theorem dX7_newMap_34 : decode cX7_newMap 34 = .ok (.invokespecial 225, 3) := by decide +kernel
theorem dX7_newMap_37 : decode cX7_newMap 37 = .ok (.areturn, 1) := by decide +kernel
theorem dX7_newMap_38 : decode cX7_newMap 38 = .ok (.new 228, 3) := by decide +kernel
theorem dX7_newMap_41 : decode cX7_newMap 41 = .ok (.dup, 1) := by decide +kernel
theorem dX7_newMap_42 : decode cX7_newMap 42 = .ok (.iload_n 1, 1) := by decide +kernel
theorem dX7_newMap_43 : decode cX7_newMap 43 = .ok (.iload_n 2, 1) := by decide +kernel
theorem dX7_newMap_44 : decode cX7_newMap 44 = .ok (.iconst 1, 1) := by decide +kernel
theorem dX7_newMap_45 : decode cX7_newMap 45 = .ok (.if_icmp .ne 7, 3) := by decide +kernel
theorem dX7_newMap_48 : decode cX7_newMap 48 = .ok (.iconst 1, 1) := by decide +kernel
theorem dX7_newMap_49 : decode cX7_newMap 49 = .ok (.goto 4, 3) := by decide +kernel
theorem dX7_newMap_52 : decode cX7_newMap 52 = .ok (.iconst 0, 1) := by decide +kernel
theorem dX7_newMap_53 : decode cX7_newMap 53 = .ok (.invokespecial 230, 3) := by decide +kernel
theorem dX7_newMap_56 : decode cX7_newMap 56 = .ok (.areturn, 1) := by decide +kernel
theorem dX7_newMap_57 : decode cX7_newMap 57 = .ok (.new 147, 3) := by decide +kernel
theorem dX7_newMap_60 : decode cX7_newMap 60 = .ok (.dup, 1) := by decide +kernel
theorem dX7_newMap_61 : decode cX7_newMap 61 = .ok (.iload_n 1, 1) := by decide +kernel
theorem dX7_newMap_62 : decode cX7_newMap 62 = .ok (.invokespecial 233, 3) := by decide +kernel
theorem dX7_newMap_65 : decode cX7_newMap 65 = .ok (.areturn, 1) := by decide +kernel
theorem dX7_bodyAt_0 : decode cX7_bodyAt 0 = .ok (.aload_n 0, 1) := by decide +kernel
theorem dX7_bodyAt_1 : decode cX7_bodyAt 1 = .ok (.iload_n 1, 1) := by decide +kernel
theorem dX7_bodyAt_2 : decode cX7_bodyAt 2 = .ok (.invokevirtual 236, 3) := by decide +kernel
theorem dX7_bodyAt_5 : decode cX7_bodyAt 5 = .ok (.astore_n 2, 1) := by decide +kernel
theorem dX7_bodyAt_6 : decode cX7_bodyAt 6 = .ok (.aload_n 2, 1) := by decide +kernel
theorem dX7_bodyAt_7 : decode cX7_bodyAt 7 = .ok (.ifnonnull 13, 3) := by decide +kernel
theorem dX7_bodyAt_10 : decode cX7_bodyAt 10 = .ok (.new 239, 3) := by decide +kernel
theorem dX7_bodyAt_13 : decode cX7_bodyAt 13 = .ok (.dup, 1) := by decide +kernel
theorem dX7_bodyAt_14 : decode cX7_bodyAt 14 = .ok (.ldc 241, 2) := by decide +kernel
theorem dX7_bodyAt_16 : decode cX7_bodyAt 16 = .ok (.invokespecial 243, 3) := by decide +kernel
theorem dX7_bodyAt_19 : decode cX7_bodyAt 19 = .ok (.athrow, 1) := by decide +kernel
theorem dX7_bodyOrNull_0 : decode cX7_bodyOrNull 0 = .ok (.iload_n 1, 1) := by decide +kernel
theorem dX7_bodyOrNull_1 : decode cX7_bodyOrNull 1 = .ok (.ifCond .lt 21, 3) := by decide +kernel
theorem dX7_bodyOrNull_4 : decode cX7_bodyOrNull 4 = .ok (.iload_n 1, 1) := by decide +kernel
theorem dX7_bodyOrNull_5 : decode cX7_bodyOrNull 5 = .ok (.aload_n 0, 1) := by decide +kernel
theorem dX7_bodyOrNull_6 : decode cX7_bodyOrNull 6 = .ok (.getfield 11, 3) := by decide +kernel
theorem dX7_bodyOrNull_9 : decode cX7_bodyOrNull 9 = .ok (.arraylength, 1) := by decide +kernel
theorem dX7_bodyOrNull_10 : decode cX7_bodyOrNull 10 = .ok (.if_icmp .ge 12, 3) := by decide +kernel
theorem dX7_bodyOrNull_13 : decode cX7_bodyOrNull 13 = .ok (.aload_n 0, 1) := by decide +kernel
theorem dX7_bodyOrNull_14 : decode cX7_bodyOrNull 14 = .ok (.getfield 11, 3) := by decide +kernel
theorem dX7_bodyOrNull_17 : decode cX7_bodyOrNull 17 = .ok (.iload_n 1, 1) := by decide +kernel
theorem dX7_bodyOrNull_18 : decode cX7_bodyOrNull 18 = .ok (.aaload, 1) := by decide +kernel
theorem dX7_bodyOrNull_19 : decode cX7_bodyOrNull 19 = .ok (.goto 4, 3) := by decide +kernel
theorem dX7_bodyOrNull_22 : decode cX7_bodyOrNull 22 = .ok (.aconst_null, 1) := by decide +kernel
theorem dX7_bodyOrNull_23 : decode cX7_bodyOrNull 23 = .ok (.areturn, 1) := by decide +kernel
theorem dX7_settle_0 : decode cX7_settle 0 = .ok (.iconst 0, 1) := by decide +kernel
theorem dX7_settle_1 : decode cX7_settle 1 = .ok (.istore_n 2, 1) := by decide +kernel
theorem dX7_settle_2 : decode cX7_settle 2 = .ok (.iload_n 2, 1) := by decide +kernel
theorem dX7_settle_3 : decode cX7_settle 3 = .ok (.aload_n 0, 1) := by decide +kernel
theorem dX7_settle_4 : decode cX7_settle 4 = .ok (.getfield 11, 3) := by decide +kernel
theorem dX7_settle_7 : decode cX7_settle 7 = .ok (.arraylength, 1) := by decide +kernel
theorem dX7_settle_8 : decode cX7_settle 8 = .ok (.if_icmp .ge 27, 3) := by decide +kernel
theorem dX7_settle_11 : decode cX7_settle 11 = .ok (.aload_n 0, 1) := by decide +kernel
theorem dX7_settle_12 : decode cX7_settle 12 = .ok (.getfield 11, 3) := by decide +kernel
theorem dX7_settle_15 : decode cX7_settle 15 = .ok (.iload_n 2, 1) := by decide +kernel
theorem dX7_settle_16 : decode cX7_settle 16 = .ok (.aaload, 1) := by decide +kernel
theorem dX7_settle_17 : decode cX7_settle 17 = .ok (.ifnonnull 12, 3) := by decide +kernel
theorem dX7_settle_20 : decode cX7_settle 20 = .ok (.aload_n 0, 1) := by decide +kernel
theorem dX7_settle_21 : decode cX7_settle 21 = .ok (.getfield 11, 3) := by decide +kernel
theorem dX7_settle_24 : decode cX7_settle 24 = .ok (.iload_n 2, 1) := by decide +kernel
theorem dX7_settle_25 : decode cX7_settle 25 = .ok (.aload_n 1, 1) := by decide +kernel
theorem dX7_settle_26 : decode cX7_settle 26 = .ok (.aastore, 1) := by decide +kernel
theorem dX7_settle_27 : decode cX7_settle 27 = .ok (.iload_n 2, 1) := by decide +kernel
theorem dX7_settle_28 : decode cX7_settle 28 = .ok (.ireturn, 1) := by decide +kernel
theorem dX7_howManyBodies_0 : decode cX7_howManyBodies 0 = .ok (.iconst 0, 1) := by decide +kernel
theorem dX7_howManyBodies_1 : decode cX7_howManyBodies 1 = .ok (.istore_n 1, 1) := by decide +kernel
theorem dX7_howManyBodies_2 : decode cX7_howManyBodies 2 = .ok (.iconst 0, 1) := by decide +kernel
theorem dX7_howManyBodies_3 : decode cX7_howManyBodies 3 = .ok (.istore_n 2, 1) := by decide +kernel
theorem dX7_howManyBodies_4 : decode cX7_howManyBodies 4 = .ok (.iload_n 2, 1) := by decide +kernel
theorem dX7_howManyBodies_5 : decode cX7_howManyBodies 5 = .ok (.aload_n 0, 1) := by decide +kernel
theorem dX7_howManyBodies_6 : decode cX7_howManyBodies 6 = .ok (.getfield 11, 3) := by decide +kernel
theorem dX7_howManyBodies_9 : decode cX7_howManyBodies 9 = .ok (.arraylength, 1) := by decide +kernel
theorem dX7_howManyBodies_10 : decode cX7_howManyBodies 10 = .ok (.if_icmp .ge 21, 3) := by decide +kernel
theorem dX7_howManyBodies_13 : decode cX7_howManyBodies 13 = .ok (.aload_n 0, 1) := by decide +kernel
theorem dX7_howManyBodies_14 : decode cX7_howManyBodies 14 = .ok (.getfield 11, 3) := by decide +kernel
theorem dX7_howManyBodies_17 : decode cX7_howManyBodies 17 = .ok (.iload_n 2, 1) := by decide +kernel
theorem dX7_howManyBodies_18 : decode cX7_howManyBodies 18 = .ok (.aaload, 1) := by decide +kernel
theorem dX7_howManyBodies_19 : decode cX7_howManyBodies 19 = .ok (.ifnull 6, 3) := by decide +kernel
theorem dX7_howManyBodies_25 : decode cX7_howManyBodies 25 = .ok (.iinc 2 1, 3) := by decide +kernel
theorem dX7_howManyBodies_28 : decode cX7_howManyBodies 28 = .ok (.goto (-24), 3) := by decide +kernel
theorem dX7_howManyBodies_31 : decode cX7_howManyBodies 31 = .ok (.iload_n 1, 1) := by decide +kernel
theorem dX7_howManyBodies_32 : decode cX7_howManyBodies 32 = .ok (.ireturn, 1) := by decide +kernel
set_option maxRecDepth 20000 in
theorem ggX7_kindOf_X7_bodyOrNull : GoodIn wsX7_kindOf wsX7_bodyOrNull := goodIn_r _ [6, 7, 33] (by decide +kernel) (by decide +kernel)
set_option maxRecDepth 20000 in
theorem gX7_kindOf_X7_bodyOrNull : GoodIn wsX7_kindOf (wsV RX7 236 RX7 yX7_bodyOrNull wsX7_bodyOrNull) := goodIn_app (goodIn_of _ (by decide +kernel)) ggX7_kindOf_X7_bodyOrNull
theorem dX7_kindOf_0 : decode cX7_kindOf 0 = .ok (.aload_n 0, 1) := by decide +kernel
theorem dX7_kindOf_1 : decode cX7_kindOf 1 = .ok (.iload_n 1, 1) := by decide +kernel
theorem dX7_kindOf_2 : decode cX7_kindOf 2 = .ok (.invokevirtual 236, 3) := by decide +kernel
theorem dX7_kindOf_5 : decode cX7_kindOf 5 = .ok (.astore_n 2, 1) := by decide +kernel
theorem dX7_kindOf_6 : decode cX7_kindOf 6 = .ok (.aload_n 2, 1) := by decide +kernel
theorem dX7_kindOf_7 : decode cX7_kindOf 7 = .ok (.ifnonnull 7, 3) := by decide +kernel
theorem dX7_kindOf_10 : decode cX7_kindOf 10 = .ok (.iconst (-1), 1) := by decide +kernel
theorem dX7_kindOf_11 : decode cX7_kindOf 11 = .ok (.goto 7, 3) := by decide +kernel
theorem dX7_kindOf_18 : decode cX7_kindOf 18 = .ok (.ireturn, 1) := by decide +kernel
theorem dX7_sizeOf_0 : decode cX7_sizeOf 0 = .ok (.aload_n 0, 1) := by decide +kernel
theorem dX7_sizeOf_1 : decode cX7_sizeOf 1 = .ok (.iload_n 1, 1) := by decide +kernel
theorem dX7_sizeOf_2 : decode cX7_sizeOf 2 = .ok (.invokevirtual 236, 3) := by decide +kernel
theorem dX7_sizeOf_5 : decode cX7_sizeOf 5 = .ok (.astore_n 3, 1) := by decide +kernel
theorem dX7_sizeOf_6 : decode cX7_sizeOf 6 = .ok (.aload_n 3, 1) := by decide +kernel
theorem dX7_sizeOf_7 : decode cX7_sizeOf 7 = .ok (.instanceof 56, 3) := by decide +kernel
theorem dX7_sizeOf_10 : decode cX7_sizeOf 10 = .ok (.ifCond .eq 15, 3) := by decide +kernel
theorem dX7_sizeOf_25 : decode cX7_sizeOf 25 = .ok (.iconst (-1), 1) := by decide +kernel
theorem dX7_sizeOf_26 : decode cX7_sizeOf 26 = .ok (.ireturn, 1) := by decide +kernel
theorem dX8_init_0 : decode cX8_init 0 = .ok (.aload_n 0, 1) := by decide +kernel
theorem dX8_init_1 : decode cX8_init 1 = .ok (.invokespecial 1, 3) := by decide +kernel
theorem dX8_init_4 : decode cX8_init 4 = .ok (.aload_n 0, 1) := by decide +kernel
theorem dX8_init_5 : decode cX8_init 5 = .ok (.bipush 16, 2) := by decide +kernel
theorem dX8_init_7 : decode cX8_init 7 = .ok (.newarray .int, 2) := by decide +kernel
theorem dX8_init_9 : decode cX8_init 9 = .ok (.putfield 7, 3) := by decide +kernel
theorem dX8_init_12 : decode cX8_init 12 = .ok (.aload_n 0, 1) := by decide +kernel
theorem dX8_init_13 : decode cX8_init 13 = .ok (.ldc 13, 2) := by decide +kernel
theorem dX8_init_15 : decode cX8_init 15 = .ok (.newarray .int, 2) := by decide +kernel
theorem dX8_init_17 : decode cX8_init 17 = .ok (.putfield 14, 3) := by decide +kernel
theorem dX8_init_20 : decode cX8_init 20 = .ok (.aload_n 0, 1) := by decide +kernel
theorem dX8_init_21 : decode cX8_init 21 = .ok (.bipush 16, 2) := by decide +kernel
theorem dX8_init_23 : decode cX8_init 23 = .ok (.newarray .int, 2) := by decide +kernel
theorem dX8_init_25 : decode cX8_init 25 = .ok (.putfield 17, 3) := by decide +kernel
theorem dX8_init_28 : decode cX8_init 28 = .ok (.aload_n 0, 1) := by decide +kernel
theorem dX8_init_29 : decode cX8_init 29 = .ok (.bipush 16, 2) := by decide +kernel
theorem dX8_init_31 : decode cX8_init 31 = .ok (.newarray .int, 2) := by decide +kernel
theorem dX8_init_33 : decode cX8_init 33 = .ok (.putfield 20, 3) := by decide +kernel
theorem dX8_init_36 : decode cX8_init 36 = .ok (.aload_n 0, 1) := by decide +kernel
theorem dX8_init_37 : decode cX8_init 37 = .ok (.bipush 16, 2) := by decide +kernel
theorem dX8_init_39 : decode cX8_init 39 = .ok (.newarray .int, 2) := by decide +kernel
theorem dX8_init_41 : decode cX8_init 41 = .ok (.putfield 23, 3) := by decide +kernel
theorem dX8_init_44 : decode cX8_init 44 = .ok (.aload_n 0, 1) := by decide +kernel
theorem dX8_init_45 : decode cX8_init 45 = .ok (.bipush 16, 2) := by decide +kernel
theorem dX8_init_47 : decode cX8_init 47 = .ok (.newarray .int, 2) := by decide +kernel
theorem dX8_init_49 : decode cX8_init 49 = .ok (.putfield 26, 3) := by decide +kernel
theorem dX8_init_52 : decode cX8_init 52 = .ok (.aload_n 0, 1) := by decide +kernel
theorem dX8_init_53 : decode cX8_init 53 = .ok (.bipush 16, 2) := by decide +kernel
theorem dX8_init_55 : decode cX8_init 55 = .ok (.newarray .int, 2) := by decide +kernel
theorem dX8_init_57 : decode cX8_init 57 = .ok (.putfield 29, 3) := by decide +kernel
theorem dX8_init_60 : decode cX8_init 60 = .ok (.aload_n 0, 1) := by decide +kernel
theorem dX8_init_61 : decode cX8_init 61 = .ok (.bipush 16, 2) := by decide +kernel
theorem dX8_init_63 : decode cX8_init 63 = .ok (.newarray .int, 2) := by decide +kernel
theorem dX8_init_65 : decode cX8_init 65 = .ok (.putfield 32, 3) := by decide +kernel
theorem dX8_init_68 : decode cX8_init 68 = .ok (.aload_n 0, 1) := by decide +kernel
theorem dX8_init_69 : decode cX8_init 69 = .ok (.bipush 16, 2) := by decide +kernel
theorem dX8_init_71 : decode cX8_init 71 = .ok (.newarray .int, 2) := by decide +kernel
theorem dX8_init_73 : decode cX8_init 73 = .ok (.putfield 35, 3) := by decide +kernel
theorem dX8_init_76 : decode cX8_init 76 = .ok (.aload_n 0, 1) := by decide +kernel
theorem dX8_init_77 : decode cX8_init 77 = .ok (.bipush 16, 2) := by decide +kernel
theorem dX8_init_79 : decode cX8_init 79 = .ok (.newarray .int, 2) := by decide +kernel
theorem dX8_init_81 : decode cX8_init 81 = .ok (.putfield 38, 3) := by decide +kernel
theorem dX8_init_84 : decode cX8_init 84 = .ok (.aload_n 0, 1) := by decide +kernel
theorem dX8_init_85 : decode cX8_init 85 = .ok (.bipush 16, 2) := by decide +kernel
theorem dX8_init_87 : decode cX8_init 87 = .ok (.newarray .int, 2) := by decide +kernel
theorem dX8_init_89 : decode cX8_init 89 = .ok (.putfield 41, 3) := by decide +kernel
theorem dX8_init_92 : decode cX8_init 92 = .ok (.aload_n 0, 1) := by decide +kernel
theorem dX8_init_93 : decode cX8_init 93 = .ok (.bipush 16, 2) := by decide +kernel
theorem dX8_init_95 : decode cX8_init 95 = .ok (.newarray .int, 2) := by decide +kernel
theorem dX8_init_97 : decode cX8_init 97 = .ok (.putfield 44, 3) := by decide +kernel
theorem dX8_init_100 : decode cX8_init 100 = .ok (.aload_n 0, 1) := by decide +kernel
theorem dX8_init_101 : decode cX8_init 101 = .ok (.sipush 1000, 3) := by decide +kernel
theorem dX8_init_104 : decode cX8_init 104 = .ok (.newarray .int, 2) := by decide +kernel
theorem dX8_init_106 : decode cX8_init 106 = .ok (.putfield 47, 3) := by decide +kernel
theorem dX8_init_109 : decode cX8_init 109 = .ok (.aload_n 0, 1) := by decide +kernel
theorem dX8_init_110 : decode cX8_init 110 = .ok (.sipush 1000, 3) := by decide +kernel
theorem dX8_init_113 : decode cX8_init 113 = .ok (.newarray .int, 2) := by decide +kernel
theorem dX8_init_115 : decode cX8_init 115 = .ok (.putfield 50, 3) := by decide +kernel
theorem dX8_init_118 : decode cX8_init 118 = .ok (.aload_n 0, 1) := by decide +kernel
theorem dX8_init_119 : decode cX8_init 119 = .ok (.sipush 4096, 3) := by decide +kernel
theorem dX8_init_122 : decode cX8_init 122 = .ok (.newarray .boolean, 2) := by decide +kernel
theorem dX8_init_124 : decode cX8_init 124 = .ok (.putfield 53, 3) := by decide +kernel
theorem dX8_init_127 : decode cX8_init 127 = .ok (.aload_n 0, 1) := by decide +kernel
theorem dX8_init_128 : decode cX8_init 128 = .ok (.bipush 16, 2) := by decide +kernel
theorem dX8_init_130 : decode cX8_init 130 = .ok (.newarray .boolean, 2) := by decide +kernel
theorem dX8_init_132 : decode cX8_init 132 = .ok (.putfield 57, 3) := by decide +kernel
theorem dX8_init_135 : decode cX8_init 135 = .ok (.return_, 1) := by decide +kernel
theorem dX8_thrown_0 : decode cX8_thrown 0 = .ok (.aload_n 0, 1) := by decide +kernel
theorem dX8_thrown_1 : decode cX8_thrown 1 = .ok (.getfield 60, 3) := by decide +kernel
theorem dX8_thrown_4 : decode cX8_thrown 4 = .ok (.ireturn, 1) := by decide +kernel
theorem dX8_refuse_0 : decode cX8_refuse 0 = .ok (.aload_n 0, 1) := by decide +kernel
theorem dX8_refuse_1 : decode cX8_refuse 1 = .ok (.iload_n 1, 1) := by decide +kernel
theorem dX8_refuse_2 : decode cX8_refuse 2 = .ok (.putfield 60, 3) := by decide +kernel
theorem dX8_refuse_5 : decode cX8_refuse 5 = .ok (.iconst 0, 1) := by decide +kernel
theorem dX8_refuse_6 : decode cX8_refuse 6 = .ok (.ireturn, 1) := by decide +kernel
theorem dX8_in_0 : decode cX8_in 0 = .ok (.iload_n 0, 1) := by decide +kernel
theorem dX8_in_1 : decode cX8_in 1 = .ok (.iload_n 1, 1) := by decide +kernel
theorem dX8_in_2 : decode cX8_in 2 = .ok (.if_icmp .lt 12, 3) := by decide +kernel
theorem dX8_in_5 : decode cX8_in 5 = .ok (.iload_n 0, 1) := by decide +kernel
theorem dX8_in_6 : decode cX8_in 6 = .ok (.iload_n 2, 1) := by decide +kernel
theorem dX8_in_7 : decode cX8_in 7 = .ok (.if_icmp .gt 7, 3) := by decide +kernel
theorem dX8_in_10 : decode cX8_in 10 = .ok (.iconst 1, 1) := by decide +kernel
theorem dX8_in_11 : decode cX8_in 11 = .ok (.goto 4, 3) := by decide +kernel
theorem dX8_in_14 : decode cX8_in 14 = .ok (.iconst 0, 1) := by decide +kernel
theorem dX8_in_15 : decode cX8_in 15 = .ok (.ireturn, 1) := by decide +kernel
set_option maxRecDepth 20000 in
theorem ggX8_isThere_X8_in : GoodIn wsX8_isThere wsX8_in := goodIn_r _ [5] (by decide +kernel) (by decide +kernel)
set_option maxRecDepth 20000 in
theorem gX8_isThere_X8_in : GoodIn wsX8_isThere (va_wsS RX8 64 yX8_in wsX8_in) := goodIn_app (goodIn_of _ (by decide +kernel)) ggX8_isThere_X8_in
theorem dX8_isThere_0 : decode cX8_isThere 0 = .ok (.iload_n 1, 1) := by decide +kernel
theorem dX8_isThere_1 : decode cX8_isThere 1 = .ok (.iconst 0, 1) := by decide +kernel
theorem dX8_isThere_2 : decode cX8_isThere 2 = .ok (.bipush 15, 2) := by decide +kernel
theorem dX8_isThere_4 : decode cX8_isThere 4 = .ok (.invokestatic 64, 3) := by decide +kernel
theorem dX8_isThere_7 : decode cX8_isThere 7 = .ok (.ifCond .eq 16, 3) := by decide +kernel
theorem dX8_isThere_10 : decode cX8_isThere 10 = .ok (.aload_n 0, 1) := by decide +kernel
theorem dX8_isThere_11 : decode cX8_isThere 11 = .ok (.getfield 7, 3) := by decide +kernel
theorem dX8_isThere_14 : decode cX8_isThere 14 = .ok (.iload_n 1, 1) := by decide +kernel
theorem dX8_isThere_15 : decode cX8_isThere 15 = .ok (.iaload, 1) := by decide +kernel
theorem dX8_isThere_16 : decode cX8_isThere 16 = .ok (.ifCond .eq 7, 3) := by decide +kernel
theorem dX8_isThere_23 : decode cX8_isThere 23 = .ok (.iconst 0, 1) := by decide +kernel
theorem dX8_isThere_24 : decode cX8_isThere 24 = .ok (.ireturn, 1) := by decide +kernel
theorem dX8_free_0 : decode cX8_free 0 = .ok (.iconst 0, 1) := by decide +kernel
theorem dX8_free_1 : decode cX8_free 1 = .ok (.istore_n 1, 1) := by decide +kernel
theorem dX8_free_2 : decode cX8_free 2 = .ok (.iload_n 1, 1) := by decide +kernel
theorem dX8_free_3 : decode cX8_free 3 = .ok (.bipush 16, 2) := by decide +kernel
theorem dX8_free_5 : decode cX8_free 5 = .ok (.if_icmp .ge 20, 3) := by decide +kernel
theorem dX8_free_8 : decode cX8_free 8 = .ok (.aload_n 0, 1) := by decide +kernel
theorem dX8_free_9 : decode cX8_free 9 = .ok (.getfield 7, 3) := by decide +kernel
theorem dX8_free_12 : decode cX8_free 12 = .ok (.iload_n 1, 1) := by decide +kernel
theorem dX8_free_13 : decode cX8_free 13 = .ok (.iaload, 1) := by decide +kernel
theorem dX8_free_14 : decode cX8_free 14 = .ok (.ifCond .ne 5, 3) := by decide +kernel
theorem dX8_free_17 : decode cX8_free 17 = .ok (.iload_n 1, 1) := by decide +kernel
theorem dX8_free_18 : decode cX8_free 18 = .ok (.ireturn, 1) := by decide +kernel
theorem dX8_born_0 : decode cX8_born 0 = .ok (.aload_n 0, 1) := by decide +kernel
theorem dX8_born_1 : decode cX8_born 1 = .ok (.getfield 7, 3) := by decide +kernel
theorem dX8_born_4 : decode cX8_born 4 = .ok (.iload_n 1, 1) := by decide +kernel
theorem dX8_born_5 : decode cX8_born 5 = .ok (.iload_n 2, 1) := by decide +kernel
theorem dX8_born_6 : decode cX8_born 6 = .ok (.iastore, 1) := by decide +kernel
theorem dX8_born_7 : decode cX8_born 7 = .ok (.aload_n 0, 1) := by decide +kernel
theorem dX8_born_8 : decode cX8_born 8 = .ok (.getfield 17, 3) := by decide +kernel
theorem dX8_born_11 : decode cX8_born 11 = .ok (.iload_n 1, 1) := by decide +kernel
theorem dX8_born_12 : decode cX8_born 12 = .ok (.iconst 0, 1) := by decide +kernel
theorem dX8_born_13 : decode cX8_born 13 = .ok (.iastore, 1) := by decide +kernel
theorem dX8_born_14 : decode cX8_born 14 = .ok (.aload_n 0, 1) := by decide +kernel
theorem dX8_born_15 : decode cX8_born 15 = .ok (.getfield 26, 3) := by decide +kernel
theorem dX8_born_18 : decode cX8_born 18 = .ok (.iload_n 1, 1) := by decide +kernel
theorem dX8_born_19 : decode cX8_born 19 = .ok (.iconst 0, 1) := by decide +kernel
theorem dX8_born_20 : decode cX8_born 20 = .ok (.iastore, 1) := by decide +kernel
theorem dX8_born_21 : decode cX8_born 21 = .ok (.aload_n 0, 1) := by decide +kernel
theorem dX8_born_22 : decode cX8_born 22 = .ok (.getfield 29, 3) := by decide +kernel
theorem dX8_born_25 : decode cX8_born 25 = .ok (.iload_n 1, 1) := by decide +kernel
theorem dX8_born_26 : decode cX8_born 26 = .ok (.iconst 0, 1) := by decide +kernel
theorem dX8_born_27 : decode cX8_born 27 = .ok (.iastore, 1) := by decide +kernel
theorem dX8_born_28 : decode cX8_born 28 = .ok (.aload_n 0, 1) := by decide +kernel
theorem dX8_born_29 : decode cX8_born 29 = .ok (.getfield 32, 3) := by decide +kernel
theorem dX8_born_32 : decode cX8_born 32 = .ok (.iload_n 1, 1) := by decide +kernel
theorem dX8_born_33 : decode cX8_born 33 = .ok (.iconst (-1), 1) := by decide +kernel
theorem dX8_born_34 : decode cX8_born 34 = .ok (.iastore, 1) := by decide +kernel
theorem dX8_born_35 : decode cX8_born 35 = .ok (.iload_n 1, 1) := by decide +kernel
theorem dX8_born_36 : decode cX8_born 36 = .ok (.ireturn, 1) := by decide +kernel
set_option maxRecDepth 20000 in
theorem ggX8_make_X8_in : GoodIn wsX8_make wsX8_in := goodIn_r _ [7] (by decide +kernel) (by decide +kernel)
set_option maxRecDepth 20000 in
theorem gX8_make_X8_in : GoodIn wsX8_make (va_wsS RX8 64 yX8_in wsX8_in) := goodIn_app (goodIn_of _ (by decide +kernel)) ggX8_make_X8_in
set_option maxRecDepth 20000 in
theorem ggX8_make_X8_refuse : GoodIn wsX8_make wsX8_refuse := goodIn_r _ [11, 1, 25, 26, 27, 28, 29, 30, 31, 32, 33, 34, 35, 36, 37, 38, 39, 40, 41] (by decide +kernel) (by decide +kernel)
set_option maxRecDepth 20000 in
theorem gX8_make_X8_refuse : GoodIn wsX8_make (wsV RX8 68 RX8 yX8_refuse wsX8_refuse) := goodIn_app (goodIn_of _ (by decide +kernel)) ggX8_make_X8_refuse
set_option maxRecDepth 20000 in
theorem ggX8_make_X8_free : GoodIn wsX8_make wsX8_free := goodIn_r _ [15, 16, 25, 26, 27, 28, 29, 30, 31, 32, 33, 34, 35, 36, 37, 38, 39, 40, 41] (by decide +kernel) (by decide +kernel)
set_option maxRecDepth 20000 in
theorem gX8_make_X8_free : GoodIn wsX8_make (wsV RX8 72 RX8 yX8_free wsX8_free) := goodIn_app (goodIn_of _ (by decide +kernel)) ggX8_make_X8_free
set_option maxRecDepth 20000 in
theorem ggX8_make_X8_born : GoodIn wsX8_make wsX8_born := goodIn_r _ [20, 16, 21, 22, 23, 24, 25, 26, 27, 28, 29, 30, 31, 32, 33, 34, 35, 36, 37, 38, 39, 40, 41] (by decide +kernel) (by decide +kernel)
set_option maxRecDepth 20000 in
theorem gX8_make_X8_born : GoodIn wsX8_make (wsV RX8 76 RX8 yX8_born wsX8_born) := goodIn_app (goodIn_of _ (by decide +kernel)) ggX8_make_X8_born
theorem dX8_make_0 : decode cX8_make 0 = .ok (.iload_n 1, 1) := by decide +kernel
theorem dX8_make_1 : decode cX8_make 1 = .ok (.iconst 0, 1) := by decide +kernel
theorem dX8_make_2 : decode cX8_make 2 = .ok (.iconst 2, 1) := by decide +kernel
theorem dX8_make_3 : decode cX8_make 3 = .ok (.invokestatic 64, 3) := by decide +kernel
theorem dX8_make_6 : decode cX8_make 6 = .ok (.ifCond .ne 9, 3) := by decide +kernel
theorem dX8_make_9 : decode cX8_make 9 = .ok (.aload_n 0, 1) := by decide +kernel
theorem dX8_make_10 : decode cX8_make 10 = .ok (.iconst 1, 1) := by decide +kernel
theorem dX8_make_11 : decode cX8_make 11 = .ok (.invokevirtual 68, 3) := by decide +kernel
theorem dX8_make_14 : decode cX8_make 14 = .ok (.ireturn, 1) := by decide +kernel
theorem dX8_make_15 : decode cX8_make 15 = .ok (.iload_n 1, 1) := by decide +kernel
theorem dX8_make_16 : decode cX8_make 16 = .ok (.ifCond .ne 13, 3) := by decide +kernel
theorem dX8_make_19 : decode cX8_make 19 = .ok (.iload_n 2, 1) := by decide +kernel
theorem dX8_make_20 : decode cX8_make 20 = .ok (.ifCond .ge 9, 3) := by decide +kernel
theorem dX8_make_23 : decode cX8_make 23 = .ok (.aload_n 0, 1) := by decide +kernel
theorem dX8_make_24 : decode cX8_make 24 = .ok (.iconst 3, 1) := by decide +kernel
theorem dX8_make_25 : decode cX8_make 25 = .ok (.invokevirtual 68, 3) := by decide +kernel
theorem dX8_make_28 : decode cX8_make 28 = .ok (.ireturn, 1) := by decide +kernel
theorem dX8_make_29 : decode cX8_make 29 = .ok (.iload_n 1, 1) := by decide +kernel
theorem dX8_make_30 : decode cX8_make 30 = .ok (.ifCond .ne 27, 3) := by decide +kernel
theorem dX8_make_33 : decode cX8_make 33 = .ok (.iload_n 2, 1) := by decide +kernel
theorem dX8_make_34 : decode cX8_make 34 = .ok (.sipush 1000, 3) := by decide +kernel
theorem dX8_make_37 : decode cX8_make 37 = .ok (.if_icmp .gt 16, 3) := by decide +kernel
theorem dX8_make_40 : decode cX8_make 40 = .ok (.iload_n 3, 1) := by decide +kernel
theorem dX8_make_41 : decode cX8_make 41 = .ok (.iconst 0, 1) := by decide +kernel
theorem dX8_make_42 : decode cX8_make 42 = .ok (.iconst 3, 1) := by decide +kernel
theorem dX8_make_43 : decode cX8_make 43 = .ok (.invokestatic 64, 3) := by decide +kernel
theorem dX8_make_46 : decode cX8_make 46 = .ok (.ifCond .eq 7, 3) := by decide +kernel
theorem dX8_make_49 : decode cX8_make 49 = .ok (.iconst 1, 1) := by decide +kernel
theorem dX8_make_50 : decode cX8_make 50 = .ok (.goto 46, 3) := by decide +kernel
theorem dX8_make_53 : decode cX8_make 53 = .ok (.iconst 0, 1) := by decide +kernel
theorem dX8_make_54 : decode cX8_make 54 = .ok (.goto 42, 3) := by decide +kernel
theorem dX8_make_57 : decode cX8_make 57 = .ok (.iload_n 1, 1) := by decide +kernel
theorem dX8_make_58 : decode cX8_make 58 = .ok (.iconst 1, 1) := by decide +kernel
theorem dX8_make_59 : decode cX8_make 59 = .ok (.if_icmp .ne 31, 3) := by decide +kernel
theorem dX8_make_62 : decode cX8_make 62 = .ok (.iload_n 2, 1) := by decide +kernel
theorem dX8_make_63 : decode cX8_make 63 = .ok (.iconst 0, 1) := by decide +kernel
theorem dX8_make_64 : decode cX8_make 64 = .ok (.sipush 1000, 3) := by decide +kernel
theorem dX8_make_67 : decode cX8_make 67 = .ok (.invokestatic 64, 3) := by decide +kernel
theorem dX8_make_70 : decode cX8_make 70 = .ok (.ifCond .eq 16, 3) := by decide +kernel
theorem dX8_make_73 : decode cX8_make 73 = .ok (.iload_n 3, 1) := by decide +kernel
theorem dX8_make_74 : decode cX8_make 74 = .ok (.iconst 0, 1) := by decide +kernel
theorem dX8_make_75 : decode cX8_make 75 = .ok (.iconst 1, 1) := by decide +kernel
theorem dX8_make_76 : decode cX8_make 76 = .ok (.invokestatic 64, 3) := by decide +kernel
theorem dX8_make_79 : decode cX8_make 79 = .ok (.ifCond .eq 7, 3) := by decide +kernel
theorem dX8_make_82 : decode cX8_make 82 = .ok (.iconst 1, 1) := by decide +kernel
theorem dX8_make_83 : decode cX8_make 83 = .ok (.goto 13, 3) := by decide +kernel
theorem dX8_make_86 : decode cX8_make 86 = .ok (.iconst 0, 1) := by decide +kernel
theorem dX8_make_87 : decode cX8_make 87 = .ok (.goto 9, 3) := by decide +kernel
theorem dX8_make_90 : decode cX8_make 90 = .ok (.iload_n 2, 1) := by decide +kernel
theorem dX8_make_91 : decode cX8_make 91 = .ok (.iconst 0, 1) := by decide +kernel
theorem dX8_make_92 : decode cX8_make 92 = .ok (.iconst 3, 1) := by decide +kernel
theorem dX8_make_93 : decode cX8_make 93 = .ok (.invokestatic 64, 3) := by decide +kernel
theorem dX8_make_96 : decode cX8_make 96 = .ok (.istore 4, 2) := by decide +kernel
theorem dX8_make_98 : decode cX8_make 98 = .ok (.iload 4, 2) := by decide +kernel
theorem dX8_make_100 : decode cX8_make 100 = .ok (.ifCond .ne 9, 3) := by decide +kernel
theorem dX8_make_103 : decode cX8_make 103 = .ok (.aload_n 0, 1) := by decide +kernel
theorem dX8_make_104 : decode cX8_make 104 = .ok (.iconst 1, 1) := by decide +kernel
theorem dX8_make_105 : decode cX8_make 105 = .ok (.invokevirtual 68, 3) := by decide +kernel
theorem dX8_make_108 : decode cX8_make 108 = .ok (.ireturn, 1) := by decide +kernel
theorem dX8_make_109 : decode cX8_make 109 = .ok (.aload_n 0, 1) := by decide +kernel
theorem dX8_make_110 : decode cX8_make 110 = .ok (.invokevirtual 72, 3) := by decide +kernel
theorem dX8_make_113 : decode cX8_make 113 = .ok (.istore 5, 2) := by decide +kernel
theorem dX8_make_115 : decode cX8_make 115 = .ok (.iload 5, 2) := by decide +kernel
theorem dX8_make_117 : decode cX8_make 117 = .ok (.ifCond .ge 9, 3) := by decide +kernel
theorem dX8_make_126 : decode cX8_make 126 = .ok (.aload_n 0, 1) := by decide +kernel
theorem dX8_make_127 : decode cX8_make 127 = .ok (.iconst 0, 1) := by decide +kernel
theorem dX8_make_128 : decode cX8_make 128 = .ok (.putfield 60, 3) := by decide +kernel
theorem dX8_make_131 : decode cX8_make 131 = .ok (.aload_n 0, 1) := by decide +kernel
theorem dX8_make_132 : decode cX8_make 132 = .ok (.iload 5, 2) := by decide +kernel
theorem dX8_make_134 : decode cX8_make 134 = .ok (.iload_n 1, 1) := by decide +kernel
theorem dX8_make_135 : decode cX8_make 135 = .ok (.iconst 1, 1) := by decide +kernel
theorem dX8_make_136 : decode cX8_make 136 = .ok (.iadd, 1) := by decide +kernel
theorem dX8_make_137 : decode cX8_make 137 = .ok (.invokevirtual 76, 3) := by decide +kernel
theorem dX8_make_140 : decode cX8_make 140 = .ok (.pop, 1) := by decide +kernel
theorem dX8_make_141 : decode cX8_make 141 = .ok (.aload_n 0, 1) := by decide +kernel
theorem dX8_make_142 : decode cX8_make 142 = .ok (.getfield 20, 3) := by decide +kernel
theorem dX8_make_145 : decode cX8_make 145 = .ok (.iload 5, 2) := by decide +kernel
theorem dX8_make_147 : decode cX8_make 147 = .ok (.iload_n 2, 1) := by decide +kernel
theorem dX8_make_148 : decode cX8_make 148 = .ok (.iastore, 1) := by decide +kernel
theorem dX8_make_149 : decode cX8_make 149 = .ok (.aload_n 0, 1) := by decide +kernel
theorem dX8_make_150 : decode cX8_make 150 = .ok (.getfield 23, 3) := by decide +kernel
theorem dX8_make_153 : decode cX8_make 153 = .ok (.iload 5, 2) := by decide +kernel
theorem dX8_make_155 : decode cX8_make 155 = .ok (.iload_n 3, 1) := by decide +kernel
theorem dX8_make_156 : decode cX8_make 156 = .ok (.iastore, 1) := by decide +kernel
theorem dX8_make_157 : decode cX8_make 157 = .ok (.iload 5, 2) := by decide +kernel
theorem dX8_make_159 : decode cX8_make 159 = .ok (.ireturn, 1) := by decide +kernel
theorem dX8_drop_0 : decode cX8_drop 0 = .ok (.aload_n 0, 1) := by decide +kernel
theorem dX8_drop_1 : decode cX8_drop 1 = .ok (.iload_n 1, 1) := by decide +kernel
theorem dX8_drop_2 : decode cX8_drop 2 = .ok (.invokevirtual 80, 3) := by decide +kernel
theorem dX8_drop_5 : decode cX8_drop 5 = .ok (.ifCond .ne 9, 3) := by decide +kernel
theorem dX8_drop_8 : decode cX8_drop 8 = .ok (.aload_n 0, 1) := by decide +kernel
theorem dX8_drop_9 : decode cX8_drop 9 = .ok (.iconst 1, 1) := by decide +kernel
theorem dX8_drop_10 : decode cX8_drop 10 = .ok (.invokevirtual 68, 3) := by decide +kernel
theorem dX8_drop_13 : decode cX8_drop 13 = .ok (.ireturn, 1) := by decide +kernel
theorem dX8_isMap_0 : decode cX8_isMap 0 = .ok (.aload_n 0, 1) := by decide +kernel
theorem dX8_isMap_1 : decode cX8_isMap 1 = .ok (.getfield 7, 3) := by decide +kernel
theorem dX8_isMap_4 : decode cX8_isMap 4 = .ok (.iload_n 1, 1) := by decide +kernel
theorem dX8_isMap_5 : decode cX8_isMap 5 = .ok (.iaload, 1) := by decide +kernel
theorem dX8_isMap_6 : decode cX8_isMap 6 = .ok (.iconst 1, 1) := by decide +kernel
theorem dX8_isMap_7 : decode cX8_isMap 7 = .ok (.if_icmp .lt 17, 3) := by decide +kernel
theorem dX8_isMap_24 : decode cX8_isMap 24 = .ok (.iconst 0, 1) := by decide +kernel
theorem dX8_isMap_25 : decode cX8_isMap 25 = .ok (.ireturn, 1) := by decide +kernel
theorem dX8_map_0 : decode cX8_map 0 = .ok (.iload_n 2, 1) := by decide +kernel
theorem dX8_map_1 : decode cX8_map 1 = .ok (.bipush 19, 2) := by decide +kernel
theorem dX8_map_3 : decode cX8_map 3 = .ok (.if_icmp .eq 9, 3) := by decide +kernel
theorem dX8_map_6 : decode cX8_map 6 = .ok (.iload_n 2, 1) := by decide +kernel
theorem dX8_map_7 : decode cX8_map 7 = .ok (.bipush 20, 2) := by decide +kernel
theorem dX8_map_9 : decode cX8_map 9 = .ok (.if_icmp .ne 7, 3) := by decide +kernel
theorem dX8_map_12 : decode cX8_map 12 = .ok (.iconst 1, 1) := by decide +kernel
theorem dX8_map_13 : decode cX8_map 13 = .ok (.goto 4, 3) := by decide +kernel
theorem dX8_map_16 : decode cX8_map 16 = .ok (.iconst 0, 1) := by decide +kernel
theorem dX8_map_17 : decode cX8_map 17 = .ok (.istore 5, 2) := by decide +kernel
theorem dX8_map_19 : decode cX8_map 19 = .ok (.aload_n 0, 1) := by decide +kernel
theorem dX8_map_20 : decode cX8_map 20 = .ok (.iload_n 1, 1) := by decide +kernel
theorem dX8_map_21 : decode cX8_map 21 = .ok (.invokevirtual 80, 3) := by decide +kernel
theorem dX8_map_24 : decode cX8_map 24 = .ok (.ifCond .eq 17, 3) := by decide +kernel
theorem dX8_map_41 : decode cX8_map 41 = .ok (.aload_n 0, 1) := by decide +kernel
theorem dX8_map_42 : decode cX8_map 42 = .ok (.iconst 1, 1) := by decide +kernel
theorem dX8_map_43 : decode cX8_map 43 = .ok (.invokevirtual 68, 3) := by decide +kernel
theorem dX8_map_46 : decode cX8_map 46 = .ok (.i2l, 1) := by decide +kernel
theorem dX8_map_47 : decode cX8_map 47 = .ok (.lreturn, 1) := by decide +kernel
theorem dX8_view_0 : decode cX8_view 0 = .ok (.aload_n 0, 1) := by decide +kernel
theorem dX8_view_1 : decode cX8_view 1 = .ok (.iload_n 1, 1) := by decide +kernel
theorem dX8_view_2 : decode cX8_view 2 = .ok (.invokevirtual 80, 3) := by decide +kernel
theorem dX8_view_5 : decode cX8_view 5 = .ok (.ifCond .ne 9, 3) := by decide +kernel
theorem dX8_view_8 : decode cX8_view 8 = .ok (.aload_n 0, 1) := by decide +kernel
theorem dX8_view_9 : decode cX8_view 9 = .ok (.iconst 1, 1) := by decide +kernel
theorem dX8_view_10 : decode cX8_view 10 = .ok (.invokevirtual 68, 3) := by decide +kernel
theorem dX8_view_13 : decode cX8_view 13 = .ok (.ireturn, 1) := by decide +kernel
theorem dX8_cursor_0 : decode cX8_cursor 0 = .ok (.aload_n 0, 1) := by decide +kernel
theorem dX8_cursor_1 : decode cX8_cursor 1 = .ok (.iload_n 1, 1) := by decide +kernel
theorem dX8_cursor_2 : decode cX8_cursor 2 = .ok (.invokevirtual 80, 3) := by decide +kernel
theorem dX8_cursor_5 : decode cX8_cursor 5 = .ok (.ifCond .ne 9, 3) := by decide +kernel
theorem dX8_cursor_8 : decode cX8_cursor 8 = .ok (.aload_n 0, 1) := by decide +kernel
theorem dX8_cursor_9 : decode cX8_cursor 9 = .ok (.iconst 1, 1) := by decide +kernel
theorem dX8_cursor_10 : decode cX8_cursor 10 = .ok (.invokevirtual 68, 3) := by decide +kernel
theorem dX8_cursor_13 : decode cX8_cursor 13 = .ok (.ireturn, 1) := by decide +kernel
theorem dX8_move_0 : decode cX8_move 0 = .ok (.aload_n 0, 1) := by decide +kernel
theorem dX8_move_1 : decode cX8_move 1 = .ok (.iload_n 1, 1) := by decide +kernel
theorem dX8_move_2 : decode cX8_move 2 = .ok (.invokevirtual 80, 3) := by decide +kernel
theorem dX8_move_5 : decode cX8_move 5 = .ok (.ifCond .ne 10, 3) := by decide +kernel
theorem dX8_move_8 : decode cX8_move 8 = .ok (.aload_n 0, 1) := by decide +kernel
theorem dX8_move_9 : decode cX8_move 9 = .ok (.iconst 1, 1) := by decide +kernel
theorem dX8_move_10 : decode cX8_move 10 = .ok (.invokevirtual 68, 3) := by decide +kernel
theorem dX8_move_13 : decode cX8_move 13 = .ok (.i2l, 1) := by decide +kernel
theorem dX8_move_14 : decode cX8_move 14 = .ok (.lreturn, 1) := by decide +kernel
theorem dX8_item_0 : decode cX8_item 0 = .ok (.aload_n 0, 1) := by decide +kernel
theorem dX8_item_1 : decode cX8_item 1 = .ok (.iload_n 1, 1) := by decide +kernel
theorem dX8_item_2 : decode cX8_item 2 = .ok (.invokevirtual 80, 3) := by decide +kernel
theorem dX8_item_5 : decode cX8_item 5 = .ok (.ifCond .ne 10, 3) := by decide +kernel
theorem dX8_item_8 : decode cX8_item 8 = .ok (.aload_n 0, 1) := by decide +kernel
theorem dX8_item_9 : decode cX8_item 9 = .ok (.iconst 1, 1) := by decide +kernel
theorem dX8_item_10 : decode cX8_item 10 = .ok (.invokevirtual 68, 3) := by decide +kernel
theorem dX8_item_13 : decode cX8_item 13 = .ok (.i2l, 1) := by decide +kernel
theorem dX8_item_14 : decode cX8_item 14 = .ok (.lreturn, 1) := by decide +kernel
theorem dX8_count_0 : decode cX8_count 0 = .ok (.iload_n 1, 1) := by decide +kernel
theorem dX8_count_1 : decode cX8_count 1 = .ok (.ifCond .eq 31, 3) := by decide +kernel
theorem dX8_count_4 : decode cX8_count 4 = .ok (.iload_n 1, 1) := by decide +kernel
theorem dX8_count_5 : decode cX8_count 5 = .ok (.bipush 10, 2) := by decide +kernel
theorem dX8_count_7 : decode cX8_count 7 = .ok (.bipush 25, 2) := by decide +kernel
theorem dX8_count_9 : decode cX8_count 9 = .ok (.invokestatic 64, 3) := by decide +kernel
theorem dX8_count_12 : decode cX8_count 12 = .ok (.ifCond .ne 20, 3) := by decide +kernel
theorem dX8_count_15 : decode cX8_count 15 = .ok (.iload_n 1, 1) := by decide +kernel
theorem dX8_count_16 : decode cX8_count 16 = .ok (.bipush 30, 2) := by decide +kernel
theorem dX8_count_18 : decode cX8_count 18 = .ok (.bipush 45, 2) := by decide +kernel
theorem dX8_count_20 : decode cX8_count 20 = .ok (.invokestatic 64, 3) := by decide +kernel
theorem dX8_count_23 : decode cX8_count 23 = .ok (.ifCond .ne 9, 3) := by decide +kernel
theorem dX8_count_26 : decode cX8_count 26 = .ok (.aload_n 0, 1) := by decide +kernel
theorem dX8_count_27 : decode cX8_count 27 = .ok (.iconst 1, 1) := by decide +kernel
theorem dX8_count_28 : decode cX8_count 28 = .ok (.invokevirtual 68, 3) := by decide +kernel
theorem dX8_count_31 : decode cX8_count 31 = .ok (.ireturn, 1) := by decide +kernel
theorem dX8_count_32 : decode cX8_count 32 = .ok (.aload_n 0, 1) := by decide +kernel
theorem dX8_count_33 : decode cX8_count 33 = .ok (.iconst 0, 1) := by decide +kernel
theorem dX8_count_34 : decode cX8_count 34 = .ok (.putfield 60, 3) := by decide +kernel
theorem dX8_count_37 : decode cX8_count 37 = .ok (.iload_n 1, 1) := by decide +kernel
theorem dX8_count_38 : decode cX8_count 38 = .ok (.ifCond .ne 38, 3) := by decide +kernel
theorem dX8_count_41 : decode cX8_count 41 = .ok (.iconst 0, 1) := by decide +kernel
theorem dX8_count_42 : decode cX8_count 42 = .ok (.istore_n 2, 1) := by decide +kernel
theorem dX8_count_43 : decode cX8_count 43 = .ok (.iconst 0, 1) := by decide +kernel
theorem dX8_count_44 : decode cX8_count 44 = .ok (.istore_n 3, 1) := by decide +kernel
theorem dX8_count_45 : decode cX8_count 45 = .ok (.iload_n 3, 1) := by decide +kernel
theorem dX8_count_46 : decode cX8_count 46 = .ok (.bipush 16, 2) := by decide +kernel
theorem dX8_count_48 : decode cX8_count 48 = .ok (.if_icmp .ge 26, 3) := by decide +kernel
theorem dX8_count_51 : decode cX8_count 51 = .ok (.iload_n 2, 1) := by decide +kernel
theorem dX8_count_52 : decode cX8_count 52 = .ok (.aload_n 0, 1) := by decide +kernel
theorem dX8_count_53 : decode cX8_count 53 = .ok (.getfield 7, 3) := by decide +kernel
theorem dX8_count_56 : decode cX8_count 56 = .ok (.iload_n 3, 1) := by decide +kernel
theorem dX8_count_57 : decode cX8_count 57 = .ok (.iaload, 1) := by decide +kernel
theorem dX8_count_58 : decode cX8_count 58 = .ok (.ifCond .eq 7, 3) := by decide +kernel
theorem dX8_count_65 : decode cX8_count 65 = .ok (.iconst 0, 1) := by decide +kernel
theorem dX8_count_66 : decode cX8_count 66 = .ok (.iadd, 1) := by decide +kernel
theorem dX8_count_67 : decode cX8_count 67 = .ok (.istore_n 2, 1) := by decide +kernel
theorem dX8_count_68 : decode cX8_count 68 = .ok (.iinc 3 1, 3) := by decide +kernel
theorem dX8_count_71 : decode cX8_count 71 = .ok (.goto (-26), 3) := by decide +kernel
theorem dX8_count_74 : decode cX8_count 74 = .ok (.iload_n 2, 1) := by decide +kernel
theorem dX8_count_75 : decode cX8_count 75 = .ok (.ireturn, 1) := by decide +kernel
theorem dX8_count_76 : decode cX8_count 76 = .ok (.iload_n 1, 1) := by decide +kernel
theorem dX8_count_77 : decode cX8_count 77 = .ok (.bipush 30, 2) := by decide +kernel
theorem dX8_count_79 : decode cX8_count 79 = .ok (.if_icmp .ge 15, 3) := by decide +kernel
theorem dX8_count_82 : decode cX8_count 82 = .ok (.aload_n 0, 1) := by decide +kernel
theorem dX8_count_83 : decode cX8_count 83 = .ok (.getfield 7, 3) := by decide +kernel
theorem dX8_count_86 : decode cX8_count 86 = .ok (.iload_n 1, 1) := by decide +kernel
theorem dX8_count_87 : decode cX8_count 87 = .ok (.bipush 10, 2) := by decide +kernel
theorem dX8_count_89 : decode cX8_count 89 = .ok (.isub, 1) := by decide +kernel
theorem dX8_count_90 : decode cX8_count 90 = .ok (.iaload, 1) := by decide +kernel
theorem dX8_count_91 : decode cX8_count 91 = .ok (.iconst 1, 1) := by decide +kernel
theorem dX8_count_92 : decode cX8_count 92 = .ok (.isub, 1) := by decide +kernel
theorem dX8_count_93 : decode cX8_count 93 = .ok (.ireturn, 1) := by decide +kernel
theorem dX8_count_94 : decode cX8_count 94 = .ok (.aload_n 0, 1) := by decide +kernel
theorem dX8_count_95 : decode cX8_count 95 = .ok (.iload_n 1, 1) := by decide +kernel
theorem dX8_count_96 : decode cX8_count 96 = .ok (.bipush 30, 2) := by decide +kernel
theorem dX8_count_98 : decode cX8_count 98 = .ok (.isub, 1) := by decide +kernel
theorem dX8_count_99 : decode cX8_count 99 = .ok (.invokevirtual 143, 3) := by decide +kernel
theorem dX8_count_102 : decode cX8_count 102 = .ok (.ifCond .eq 14, 3) := by decide +kernel
theorem dX8_count_116 : decode cX8_count 116 = .ok (.iconst (-1), 1) := by decide +kernel
theorem dX8_count_117 : decode cX8_count 117 = .ok (.ireturn, 1) := by decide +kernel
theorem dL_make_0 : decode cL_make 0 = .ok (.aload 4, 2) := by decide +kernel
theorem dL_make_2 : decode cL_make 2 = .ok (.iconst 0, 1) := by decide +kernel
theorem dL_make_3 : decode cL_make 3 = .ok (.aload_n 0, 1) := by decide +kernel
theorem dL_make_4 : decode cL_make 4 = .ok (.iload_n 1, 1) := by decide +kernel
theorem dL_make_5 : decode cL_make 5 = .ok (.iload_n 2, 1) := by decide +kernel
theorem dL_make_6 : decode cL_make 6 = .ok (.iload_n 3, 1) := by decide +kernel
theorem dL_make_7 : decode cL_make 7 = .ok (.invokevirtual 7, 3) := by decide +kernel
theorem dL_make_10 : decode cL_make 10 = .ok (.i2l, 1) := by decide +kernel
theorem dL_make_11 : decode cL_make 11 = .ok (.lastore, 1) := by decide +kernel
theorem dL_make_12 : decode cL_make 12 = .ok (.goto 15, 3) := by decide +kernel
theorem dL_make_15 : decode cL_make 15 = .ok (.astore 5, 2) := by decide +kernel
theorem dL_make_17 : decode cL_make 17 = .ok (.iconst 1, 1) := by decide +kernel
theorem dL_make_18 : decode cL_make 18 = .ok (.ireturn, 1) := by decide +kernel
theorem dL_make_23 : decode cL_make 23 = .ok (.astore 5, 2) := by decide +kernel
theorem dL_make_25 : decode cL_make 25 = .ok (.iconst 3, 1) := by decide +kernel
theorem dL_make_26 : decode cL_make 26 = .ok (.ireturn, 1) := by decide +kernel
theorem dL_make_27 : decode cL_make 27 = .ok (.iconst 0, 1) := by decide +kernel
theorem dL_make_28 : decode cL_make 28 = .ok (.ireturn, 1) := by decide +kernel
theorem dL_drop_0 : decode cL_drop 0 = .ok (.aload_n 2, 1) := by decide +kernel
theorem dL_drop_1 : decode cL_drop 1 = .ok (.iconst 0, 1) := by decide +kernel
theorem dL_drop_2 : decode cL_drop 2 = .ok (.aload_n 0, 1) := by decide +kernel
theorem dL_drop_3 : decode cL_drop 3 = .ok (.iload_n 1, 1) := by decide +kernel
theorem dL_drop_4 : decode cL_drop 4 = .ok (.invokevirtual 19, 3) := by decide +kernel
theorem dL_drop_12 : decode cL_drop 12 = .ok (.astore_n 3, 1) := by decide +kernel
theorem dL_drop_13 : decode cL_drop 13 = .ok (.iconst 1, 1) := by decide +kernel
theorem dL_drop_14 : decode cL_drop 14 = .ok (.ireturn, 1) := by decide +kernel
theorem dL_map_0 : decode cL_map 0 = .ok (.aload 5, 2) := by decide +kernel
theorem dL_map_2 : decode cL_map 2 = .ok (.iconst 0, 1) := by decide +kernel
theorem dL_map_3 : decode cL_map 3 = .ok (.aload_n 0, 1) := by decide +kernel
theorem dL_map_4 : decode cL_map 4 = .ok (.iload_n 1, 1) := by decide +kernel
theorem dL_map_5 : decode cL_map 5 = .ok (.iload_n 2, 1) := by decide +kernel
theorem dL_map_6 : decode cL_map 6 = .ok (.iload_n 3, 1) := by decide +kernel
theorem dL_map_7 : decode cL_map 7 = .ok (.iload 4, 2) := by decide +kernel
theorem dL_map_9 : decode cL_map 9 = .ok (.invokevirtual 25, 3) := by decide +kernel
theorem dL_map_16 : decode cL_map 16 = .ok (.astore 6, 2) := by decide +kernel
theorem dL_map_18 : decode cL_map 18 = .ok (.iconst 1, 1) := by decide +kernel
theorem dL_map_19 : decode cL_map 19 = .ok (.ireturn, 1) := by decide +kernel
theorem dL_view_0 : decode cL_view 0 = .ok (.aload 5, 2) := by decide +kernel
theorem dL_view_2 : decode cL_view 2 = .ok (.iconst 0, 1) := by decide +kernel
theorem dL_view_3 : decode cL_view 3 = .ok (.aload_n 0, 1) := by decide +kernel
theorem dL_view_4 : decode cL_view 4 = .ok (.iload_n 1, 1) := by decide +kernel
theorem dL_view_5 : decode cL_view 5 = .ok (.iload_n 2, 1) := by decide +kernel
theorem dL_view_6 : decode cL_view 6 = .ok (.iload_n 3, 1) := by decide +kernel
theorem dL_view_7 : decode cL_view 7 = .ok (.iload 4, 2) := by decide +kernel
theorem dL_view_9 : decode cL_view 9 = .ok (.invokevirtual 33, 3) := by decide +kernel
theorem dL_view_17 : decode cL_view 17 = .ok (.astore 6, 2) := by decide +kernel
theorem dL_view_19 : decode cL_view 19 = .ok (.iconst 1, 1) := by decide +kernel
theorem dL_view_20 : decode cL_view 20 = .ok (.ireturn, 1) := by decide +kernel
theorem dL_cursor_0 : decode cL_cursor 0 = .ok (.aload_n 2, 1) := by decide +kernel
theorem dL_cursor_1 : decode cL_cursor 1 = .ok (.iconst 0, 1) := by decide +kernel
theorem dL_cursor_2 : decode cL_cursor 2 = .ok (.aload_n 0, 1) := by decide +kernel
theorem dL_cursor_3 : decode cL_cursor 3 = .ok (.iload_n 1, 1) := by decide +kernel
theorem dL_cursor_4 : decode cL_cursor 4 = .ok (.invokevirtual 37, 3) := by decide +kernel
theorem dL_cursor_12 : decode cL_cursor 12 = .ok (.astore_n 3, 1) := by decide +kernel
theorem dL_cursor_13 : decode cL_cursor 13 = .ok (.iconst 1, 1) := by decide +kernel
theorem dL_cursor_14 : decode cL_cursor 14 = .ok (.ireturn, 1) := by decide +kernel
theorem dL_move_0 : decode cL_move 0 = .ok (.aload 4, 2) := by decide +kernel
theorem dL_move_2 : decode cL_move 2 = .ok (.iconst 0, 1) := by decide +kernel
theorem dL_move_3 : decode cL_move 3 = .ok (.aload_n 0, 1) := by decide +kernel
theorem dL_move_4 : decode cL_move 4 = .ok (.iload_n 1, 1) := by decide +kernel
theorem dL_move_5 : decode cL_move 5 = .ok (.iload_n 2, 1) := by decide +kernel
theorem dL_move_6 : decode cL_move 6 = .ok (.iload_n 3, 1) := by decide +kernel
theorem dL_move_7 : decode cL_move 7 = .ok (.invokevirtual 40, 3) := by decide +kernel
theorem dL_move_14 : decode cL_move 14 = .ok (.astore 5, 2) := by decide +kernel
theorem dL_move_16 : decode cL_move 16 = .ok (.iconst 1, 1) := by decide +kernel
theorem dL_move_17 : decode cL_move 17 = .ok (.ireturn, 1) := by decide +kernel
theorem dL_item_0 : decode cL_item 0 = .ok (.aload 4, 2) := by decide +kernel
theorem dL_item_2 : decode cL_item 2 = .ok (.iconst 0, 1) := by decide +kernel
theorem dL_item_3 : decode cL_item 3 = .ok (.aload_n 0, 1) := by decide +kernel
theorem dL_item_4 : decode cL_item 4 = .ok (.iload_n 1, 1) := by decide +kernel
theorem dL_item_5 : decode cL_item 5 = .ok (.iload_n 2, 1) := by decide +kernel
theorem dL_item_6 : decode cL_item 6 = .ok (.iload_n 3, 1) := by decide +kernel
theorem dL_item_7 : decode cL_item 7 = .ok (.invokevirtual 44, 3) := by decide +kernel
theorem dL_item_14 : decode cL_item 14 = .ok (.astore 5, 2) := by decide +kernel
theorem dL_item_16 : decode cL_item 16 = .ok (.iconst 1, 1) := by decide +kernel
theorem dL_item_17 : decode cL_item 17 = .ok (.ireturn, 1) := by decide +kernel
theorem dL_count_0 : decode cL_count 0 = .ok (.aload_n 2, 1) := by decide +kernel
theorem dL_count_1 : decode cL_count 1 = .ok (.iconst 0, 1) := by decide +kernel
theorem dL_count_2 : decode cL_count 2 = .ok (.aload_n 0, 1) := by decide +kernel
theorem dL_count_3 : decode cL_count 3 = .ok (.iload_n 1, 1) := by decide +kernel
theorem dL_count_4 : decode cL_count 4 = .ok (.invokevirtual 49, 3) := by decide +kernel
theorem dL_count_7 : decode cL_count 7 = .ok (.i2l, 1) := by decide +kernel
theorem dL_count_8 : decode cL_count 8 = .ok (.lastore, 1) := by decide +kernel
theorem dL_count_9 : decode cL_count 9 = .ok (.goto 6, 3) := by decide +kernel
theorem dL_count_12 : decode cL_count 12 = .ok (.astore_n 3, 1) := by decide +kernel
theorem dL_count_13 : decode cL_count 13 = .ok (.iconst 1, 1) := by decide +kernel
theorem dL_count_14 : decode cL_count 14 = .ok (.ireturn, 1) := by decide +kernel
theorem dL_count_15 : decode cL_count 15 = .ok (.iconst 0, 1) := by decide +kernel
theorem dL_count_16 : decode cL_count 16 = .ok (.ireturn, 1) := by decide +kernel
theorem dL_law_0 : decode cL_law 0 = .ok (.new 8, 3) := by decide +kernel
theorem dL_law_3 : decode cL_law 3 = .ok (.dup, 1) := by decide +kernel
theorem dL_law_4 : decode cL_law 4 = .ok (.invokespecial 52, 3) := by decide +kernel
theorem dL_law_7 : decode cL_law 7 = .ok (.astore_n 1, 1) := by decide +kernel
theorem dL_law_8 : decode cL_law 8 = .ok (.new 53, 3) := by decide +kernel
theorem dL_law_11 : decode cL_law 11 = .ok (.dup, 1) := by decide +kernel
theorem dL_law_12 : decode cL_law 12 = .ok (.invokespecial 55, 3) := by decide +kernel
theorem dL_law_15 : decode cL_law 15 = .ok (.astore_n 2, 1) := by decide +kernel
theorem dL_law_16 : decode cL_law 16 = .ok (.iconst 1, 1) := by decide +kernel
theorem dL_law_17 : decode cL_law 17 = .ok (.newarray .long, 2) := by decide +kernel
theorem dL_law_19 : decode cL_law 19 = .ok (.astore_n 3, 1) := by decide +kernel
theorem dL_law_20 : decode cL_law 20 = .ok (.iconst 0, 1) := by decide +kernel
theorem dL_law_21 : decode cL_law 21 = .ok (.istore 4, 2) := by decide +kernel
theorem dL_law_23 : decode cL_law 23 = .ok (.iload 4, 2) := by decide +kernel
theorem dL_law_25 : decode cL_law 25 = .ok (.aload_n 0, 1) := by decide +kernel
theorem dL_law_26 : decode cL_law 26 = .ok (.arraylength, 1) := by decide +kernel
theorem dL_law_27 : decode cL_law 27 = .ok (.iconst 5, 1) := by decide +kernel
theorem dL_law_28 : decode cL_law 28 = .ok (.isub, 1) := by decide +kernel
theorem dL_law_29 : decode cL_law 29 = .ok (.if_icmp .gt 650, 3) := by decide +kernel
theorem dL_law_32 : decode cL_law 32 = .ok (.aload_n 0, 1) := by decide +kernel
theorem dL_law_33 : decode cL_law 33 = .ok (.iload 4, 2) := by decide +kernel
theorem dL_law_35 : decode cL_law 35 = .ok (.iaload, 1) := by decide +kernel
theorem dL_law_36 : decode cL_law 36 = .ok (.bipush 7, 2) := by decide +kernel
theorem dL_law_38 : decode cL_law 38 = .ok (.iand, 1) := by decide +kernel
theorem dL_law_39 : decode cL_law 39 = .ok (.tableswitch 634 0 7 #[45, 125, 181, 272, 364, 420, 499, 578], 45) := by decide +kernel
theorem dL_law_84 : decode cL_law 84 = .ok (.aload_n 1, 1) := by decide +kernel
theorem dL_law_85 : decode cL_law 85 = .ok (.aload_n 0, 1) := by decide +kernel
theorem dL_law_86 : decode cL_law 86 = .ok (.iload 4, 2) := by decide +kernel
theorem dL_law_88 : decode cL_law 88 = .ok (.iconst 1, 1) := by decide +kernel
theorem dL_law_89 : decode cL_law 89 = .ok (.iadd, 1) := by decide +kernel
theorem dL_law_90 : decode cL_law 90 = .ok (.iaload, 1) := by decide +kernel
theorem dL_law_91 : decode cL_law 91 = .ok (.aload_n 0, 1) := by decide +kernel
theorem dL_law_92 : decode cL_law 92 = .ok (.iload 4, 2) := by decide +kernel
theorem dL_law_94 : decode cL_law 94 = .ok (.iconst 2, 1) := by decide +kernel
theorem dL_law_95 : decode cL_law 95 = .ok (.iadd, 1) := by decide +kernel
theorem dL_law_96 : decode cL_law 96 = .ok (.iaload, 1) := by decide +kernel
theorem dL_law_97 : decode cL_law 97 = .ok (.aload_n 0, 1) := by decide +kernel
theorem dL_law_98 : decode cL_law 98 = .ok (.iload 4, 2) := by decide +kernel
theorem dL_law_100 : decode cL_law 100 = .ok (.iconst 3, 1) := by decide +kernel
theorem dL_law_101 : decode cL_law 101 = .ok (.iadd, 1) := by decide +kernel
theorem dL_law_102 : decode cL_law 102 = .ok (.iaload, 1) := by decide +kernel
theorem dL_law_103 : decode cL_law 103 = .ok (.aload_n 3, 1) := by decide +kernel
theorem dL_law_104 : decode cL_law 104 = .ok (.invokestatic 56, 3) := by decide +kernel
theorem dL_law_107 : decode cL_law 107 = .ok (.istore 5, 2) := by decide +kernel
theorem dL_law_109 : decode cL_law 109 = .ok (.aload_n 2, 1) := by decide +kernel
theorem dL_law_110 : decode cL_law 110 = .ok (.aload_n 0, 1) := by decide +kernel
theorem dL_law_111 : decode cL_law 111 = .ok (.iload 4, 2) := by decide +kernel
theorem dL_law_113 : decode cL_law 113 = .ok (.iconst 1, 1) := by decide +kernel
theorem dL_law_114 : decode cL_law 114 = .ok (.iadd, 1) := by decide +kernel
theorem dL_law_115 : decode cL_law 115 = .ok (.iaload, 1) := by decide +kernel
theorem dL_law_116 : decode cL_law 116 = .ok (.aload_n 0, 1) := by decide +kernel
theorem dL_law_117 : decode cL_law 117 = .ok (.iload 4, 2) := by decide +kernel
theorem dL_law_119 : decode cL_law 119 = .ok (.iconst 2, 1) := by decide +kernel
theorem dL_law_120 : decode cL_law 120 = .ok (.iadd, 1) := by decide +kernel
theorem dL_law_121 : decode cL_law 121 = .ok (.iaload, 1) := by decide +kernel
theorem dL_law_122 : decode cL_law 122 = .ok (.aload_n 0, 1) := by decide +kernel
theorem dL_law_123 : decode cL_law 123 = .ok (.iload 4, 2) := by decide +kernel
theorem dL_law_125 : decode cL_law 125 = .ok (.iconst 3, 1) := by decide +kernel
theorem dL_law_126 : decode cL_law 126 = .ok (.iadd, 1) := by decide +kernel
theorem dL_law_127 : decode cL_law 127 = .ok (.iaload, 1) := by decide +kernel
theorem dL_law_128 : decode cL_law 128 = .ok (.invokevirtual 61, 3) := by decide +kernel
theorem dL_law_131 : decode cL_law 131 = .ok (.istore 6, 2) := by decide +kernel
theorem dL_law_133 : decode cL_law 133 = .ok (.aload_n 2, 1) := by decide +kernel
theorem dL_law_134 : decode cL_law 134 = .ok (.invokevirtual 62, 3) := by decide +kernel
theorem dL_law_137 : decode cL_law 137 = .ok (.iload 5, 2) := by decide +kernel
theorem dL_law_139 : decode cL_law 139 = .ok (.if_icmp .eq 5, 3) := by decide +kernel
theorem dL_law_144 : decode cL_law 144 = .ok (.iload 5, 2) := by decide +kernel
theorem dL_law_146 : decode cL_law 146 = .ok (.ifCond .ne 15, 3) := by decide +kernel
theorem dL_law_149 : decode cL_law 149 = .ok (.aload_n 3, 1) := by decide +kernel
theorem dL_law_150 : decode cL_law 150 = .ok (.iconst 0, 1) := by decide +kernel
theorem dL_law_151 : decode cL_law 151 = .ok (.laload, 1) := by decide +kernel
theorem dL_law_152 : decode cL_law 152 = .ok (.iload 6, 2) := by decide +kernel
theorem dL_law_154 : decode cL_law 154 = .ok (.i2l, 1) := by decide +kernel
theorem dL_law_155 : decode cL_law 155 = .ok (.lcmp, 1) := by decide +kernel
theorem dL_law_156 : decode cL_law 156 = .ok (.ifCond .eq 5, 3) := by decide +kernel
theorem dL_law_161 : decode cL_law 161 = .ok (.goto 512, 3) := by decide +kernel
theorem dL_law_164 : decode cL_law 164 = .ok (.aload_n 1, 1) := by decide +kernel
theorem dL_law_165 : decode cL_law 165 = .ok (.aload_n 0, 1) := by decide +kernel
theorem dL_law_166 : decode cL_law 166 = .ok (.iload 4, 2) := by decide +kernel
theorem dL_law_168 : decode cL_law 168 = .ok (.iconst 1, 1) := by decide +kernel
theorem dL_law_169 : decode cL_law 169 = .ok (.iadd, 1) := by decide +kernel
theorem dL_law_170 : decode cL_law 170 = .ok (.iaload, 1) := by decide +kernel
theorem dL_law_171 : decode cL_law 171 = .ok (.aload_n 3, 1) := by decide +kernel
theorem dL_law_172 : decode cL_law 172 = .ok (.invokestatic 66, 3) := by decide +kernel
theorem dL_law_175 : decode cL_law 175 = .ok (.istore 5, 2) := by decide +kernel
theorem dL_law_177 : decode cL_law 177 = .ok (.aload_n 2, 1) := by decide +kernel
theorem dL_law_178 : decode cL_law 178 = .ok (.aload_n 0, 1) := by decide +kernel
theorem dL_law_179 : decode cL_law 179 = .ok (.iload 4, 2) := by decide +kernel
theorem dL_law_181 : decode cL_law 181 = .ok (.iconst 1, 1) := by decide +kernel
theorem dL_law_182 : decode cL_law 182 = .ok (.iadd, 1) := by decide +kernel
theorem dL_law_183 : decode cL_law 183 = .ok (.iaload, 1) := by decide +kernel
theorem dL_law_184 : decode cL_law 184 = .ok (.invokevirtual 69, 3) := by decide +kernel
theorem dL_law_187 : decode cL_law 187 = .ok (.istore 6, 2) := by decide +kernel
theorem dL_law_189 : decode cL_law 189 = .ok (.aload_n 2, 1) := by decide +kernel
theorem dL_law_190 : decode cL_law 190 = .ok (.invokevirtual 62, 3) := by decide +kernel
theorem dL_law_193 : decode cL_law 193 = .ok (.iload 5, 2) := by decide +kernel
theorem dL_law_195 : decode cL_law 195 = .ok (.if_icmp .eq 5, 3) := by decide +kernel
theorem dL_law_200 : decode cL_law 200 = .ok (.iload 5, 2) := by decide +kernel
theorem dL_law_202 : decode cL_law 202 = .ok (.ifCond .ne 15, 3) := by decide +kernel
theorem dL_law_205 : decode cL_law 205 = .ok (.aload_n 3, 1) := by decide +kernel
theorem dL_law_206 : decode cL_law 206 = .ok (.iconst 0, 1) := by decide +kernel
theorem dL_law_207 : decode cL_law 207 = .ok (.laload, 1) := by decide +kernel
theorem dL_law_208 : decode cL_law 208 = .ok (.iload 6, 2) := by decide +kernel
theorem dL_law_210 : decode cL_law 210 = .ok (.i2l, 1) := by decide +kernel
theorem dL_law_211 : decode cL_law 211 = .ok (.lcmp, 1) := by decide +kernel
theorem dL_law_212 : decode cL_law 212 = .ok (.ifCond .eq 5, 3) := by decide +kernel
theorem dL_law_217 : decode cL_law 217 = .ok (.goto 456, 3) := by decide +kernel
theorem dL_law_220 : decode cL_law 220 = .ok (.aload_n 1, 1) := by decide +kernel
theorem dL_law_221 : decode cL_law 221 = .ok (.aload_n 0, 1) := by decide +kernel
theorem dL_law_222 : decode cL_law 222 = .ok (.iload 4, 2) := by decide +kernel
theorem dL_law_224 : decode cL_law 224 = .ok (.iconst 1, 1) := by decide +kernel
theorem dL_law_225 : decode cL_law 225 = .ok (.iadd, 1) := by decide +kernel
theorem dL_law_226 : decode cL_law 226 = .ok (.iaload, 1) := by decide +kernel
theorem dL_law_227 : decode cL_law 227 = .ok (.aload_n 0, 1) := by decide +kernel
theorem dL_law_228 : decode cL_law 228 = .ok (.iload 4, 2) := by decide +kernel
theorem dL_law_230 : decode cL_law 230 = .ok (.iconst 2, 1) := by decide +kernel
theorem dL_law_231 : decode cL_law 231 = .ok (.iadd, 1) := by decide +kernel
theorem dL_law_232 : decode cL_law 232 = .ok (.iaload, 1) := by decide +kernel
theorem dL_law_233 : decode cL_law 233 = .ok (.aload_n 0, 1) := by decide +kernel
theorem dL_law_234 : decode cL_law 234 = .ok (.iload 4, 2) := by decide +kernel
theorem dL_law_236 : decode cL_law 236 = .ok (.iconst 3, 1) := by decide +kernel
theorem dL_law_237 : decode cL_law 237 = .ok (.iadd, 1) := by decide +kernel
theorem dL_law_238 : decode cL_law 238 = .ok (.iaload, 1) := by decide +kernel
theorem dL_law_239 : decode cL_law 239 = .ok (.aload_n 0, 1) := by decide +kernel
theorem dL_law_240 : decode cL_law 240 = .ok (.iload 4, 2) := by decide +kernel
theorem dL_law_242 : decode cL_law 242 = .ok (.iconst 4, 1) := by decide +kernel
theorem dL_law_243 : decode cL_law 243 = .ok (.iadd, 1) := by decide +kernel
theorem dL_law_244 : decode cL_law 244 = .ok (.iaload, 1) := by decide +kernel
theorem dL_law_245 : decode cL_law 245 = .ok (.aload_n 3, 1) := by decide +kernel
theorem dL_law_246 : decode cL_law 246 = .ok (.invokestatic 70, 3) := by decide +kernel
theorem dL_law_249 : decode cL_law 249 = .ok (.istore 5, 2) := by decide +kernel
theorem dL_law_251 : decode cL_law 251 = .ok (.aload_n 2, 1) := by decide +kernel
theorem dL_law_252 : decode cL_law 252 = .ok (.aload_n 0, 1) := by decide +kernel
theorem dL_law_253 : decode cL_law 253 = .ok (.iload 4, 2) := by decide +kernel
theorem dL_law_255 : decode cL_law 255 = .ok (.iconst 1, 1) := by decide +kernel
theorem dL_law_256 : decode cL_law 256 = .ok (.iadd, 1) := by decide +kernel
theorem dL_law_257 : decode cL_law 257 = .ok (.iaload, 1) := by decide +kernel
theorem dL_law_258 : decode cL_law 258 = .ok (.aload_n 0, 1) := by decide +kernel
theorem dL_law_259 : decode cL_law 259 = .ok (.iload 4, 2) := by decide +kernel
theorem dL_law_261 : decode cL_law 261 = .ok (.iconst 2, 1) := by decide +kernel
theorem dL_law_262 : decode cL_law 262 = .ok (.iadd, 1) := by decide +kernel
theorem dL_law_263 : decode cL_law 263 = .ok (.iaload, 1) := by decide +kernel
theorem dL_law_264 : decode cL_law 264 = .ok (.aload_n 0, 1) := by decide +kernel
theorem dL_law_265 : decode cL_law 265 = .ok (.iload 4, 2) := by decide +kernel
theorem dL_law_267 : decode cL_law 267 = .ok (.iconst 3, 1) := by decide +kernel
theorem dL_law_268 : decode cL_law 268 = .ok (.iadd, 1) := by decide +kernel
theorem dL_law_269 : decode cL_law 269 = .ok (.iaload, 1) := by decide +kernel
theorem dL_law_270 : decode cL_law 270 = .ok (.aload_n 0, 1) := by decide +kernel
theorem dL_law_271 : decode cL_law 271 = .ok (.iload 4, 2) := by decide +kernel
theorem dL_law_273 : decode cL_law 273 = .ok (.iconst 4, 1) := by decide +kernel
theorem dL_law_274 : decode cL_law 274 = .ok (.iadd, 1) := by decide +kernel
theorem dL_law_275 : decode cL_law 275 = .ok (.iaload, 1) := by decide +kernel
theorem dL_law_276 : decode cL_law 276 = .ok (.invokevirtual 73, 3) := by decide +kernel
theorem dL_law_279 : decode cL_law 279 = .ok (.lstore 6, 2) := by decide +kernel
theorem dL_law_281 : decode cL_law 281 = .ok (.aload_n 2, 1) := by decide +kernel
theorem dL_law_282 : decode cL_law 282 = .ok (.invokevirtual 62, 3) := by decide +kernel
theorem dL_law_285 : decode cL_law 285 = .ok (.iload 5, 2) := by decide +kernel
theorem dL_law_287 : decode cL_law 287 = .ok (.if_icmp .eq 5, 3) := by decide +kernel
theorem dL_law_292 : decode cL_law 292 = .ok (.iload 5, 2) := by decide +kernel
theorem dL_law_294 : decode cL_law 294 = .ok (.ifCond .ne 14, 3) := by decide +kernel
theorem dL_law_297 : decode cL_law 297 = .ok (.aload_n 3, 1) := by decide +kernel
theorem dL_law_298 : decode cL_law 298 = .ok (.iconst 0, 1) := by decide +kernel
theorem dL_law_299 : decode cL_law 299 = .ok (.laload, 1) := by decide +kernel
theorem dL_law_300 : decode cL_law 300 = .ok (.lload 6, 2) := by decide +kernel
theorem dL_law_302 : decode cL_law 302 = .ok (.lcmp, 1) := by decide +kernel
theorem dL_law_303 : decode cL_law 303 = .ok (.ifCond .eq 5, 3) := by decide +kernel
theorem dL_law_308 : decode cL_law 308 = .ok (.goto 365, 3) := by decide +kernel
theorem dL_law_311 : decode cL_law 311 = .ok (.aload_n 1, 1) := by decide +kernel
theorem dL_law_312 : decode cL_law 312 = .ok (.aload_n 0, 1) := by decide +kernel
theorem dL_law_313 : decode cL_law 313 = .ok (.iload 4, 2) := by decide +kernel
theorem dL_law_315 : decode cL_law 315 = .ok (.iconst 1, 1) := by decide +kernel
theorem dL_law_316 : decode cL_law 316 = .ok (.iadd, 1) := by decide +kernel
theorem dL_law_317 : decode cL_law 317 = .ok (.iaload, 1) := by decide +kernel
theorem dL_law_318 : decode cL_law 318 = .ok (.aload_n 0, 1) := by decide +kernel
theorem dL_law_319 : decode cL_law 319 = .ok (.iload 4, 2) := by decide +kernel
theorem dL_law_321 : decode cL_law 321 = .ok (.iconst 2, 1) := by decide +kernel
theorem dL_law_322 : decode cL_law 322 = .ok (.iadd, 1) := by decide +kernel
theorem dL_law_323 : decode cL_law 323 = .ok (.iaload, 1) := by decide +kernel
theorem dL_law_324 : decode cL_law 324 = .ok (.aload_n 0, 1) := by decide +kernel
theorem dL_law_325 : decode cL_law 325 = .ok (.iload 4, 2) := by decide +kernel
theorem dL_law_327 : decode cL_law 327 = .ok (.iconst 3, 1) := by decide +kernel
theorem dL_law_328 : decode cL_law 328 = .ok (.iadd, 1) := by decide +kernel
theorem dL_law_329 : decode cL_law 329 = .ok (.iaload, 1) := by decide +kernel
theorem dL_law_330 : decode cL_law 330 = .ok (.aload_n 0, 1) := by decide +kernel
theorem dL_law_331 : decode cL_law 331 = .ok (.iload 4, 2) := by decide +kernel
theorem dL_law_333 : decode cL_law 333 = .ok (.iconst 4, 1) := by decide +kernel
theorem dL_law_334 : decode cL_law 334 = .ok (.iadd, 1) := by decide +kernel
theorem dL_law_335 : decode cL_law 335 = .ok (.iaload, 1) := by decide +kernel
theorem dL_law_336 : decode cL_law 336 = .ok (.aload_n 3, 1) := by decide +kernel
theorem dL_law_337 : decode cL_law 337 = .ok (.invokestatic 74, 3) := by decide +kernel
theorem dL_law_340 : decode cL_law 340 = .ok (.istore 5, 2) := by decide +kernel
theorem dL_law_342 : decode cL_law 342 = .ok (.aload_n 2, 1) := by decide +kernel
theorem dL_law_343 : decode cL_law 343 = .ok (.aload_n 0, 1) := by decide +kernel
theorem dL_law_344 : decode cL_law 344 = .ok (.iload 4, 2) := by decide +kernel
theorem dL_law_346 : decode cL_law 346 = .ok (.iconst 1, 1) := by decide +kernel
theorem dL_law_347 : decode cL_law 347 = .ok (.iadd, 1) := by decide +kernel
theorem dL_law_348 : decode cL_law 348 = .ok (.iaload, 1) := by decide +kernel
theorem dL_law_349 : decode cL_law 349 = .ok (.aload_n 0, 1) := by decide +kernel
theorem dL_law_350 : decode cL_law 350 = .ok (.iload 4, 2) := by decide +kernel
theorem dL_law_352 : decode cL_law 352 = .ok (.iconst 2, 1) := by decide +kernel
theorem dL_law_353 : decode cL_law 353 = .ok (.iadd, 1) := by decide +kernel
theorem dL_law_354 : decode cL_law 354 = .ok (.iaload, 1) := by decide +kernel
theorem dL_law_355 : decode cL_law 355 = .ok (.aload_n 0, 1) := by decide +kernel
theorem dL_law_356 : decode cL_law 356 = .ok (.iload 4, 2) := by decide +kernel
theorem dL_law_358 : decode cL_law 358 = .ok (.iconst 3, 1) := by decide +kernel
theorem dL_law_359 : decode cL_law 359 = .ok (.iadd, 1) := by decide +kernel
theorem dL_law_360 : decode cL_law 360 = .ok (.iaload, 1) := by decide +kernel
theorem dL_law_361 : decode cL_law 361 = .ok (.aload_n 0, 1) := by decide +kernel
theorem dL_law_362 : decode cL_law 362 = .ok (.iload 4, 2) := by decide +kernel
theorem dL_law_364 : decode cL_law 364 = .ok (.iconst 4, 1) := by decide +kernel
theorem dL_law_365 : decode cL_law 365 = .ok (.iadd, 1) := by decide +kernel
theorem dL_law_366 : decode cL_law 366 = .ok (.iaload, 1) := by decide +kernel
theorem dL_law_367 : decode cL_law 367 = .ok (.invokevirtual 76, 3) := by decide +kernel
theorem dL_law_370 : decode cL_law 370 = .ok (.istore 6, 2) := by decide +kernel
theorem dL_law_372 : decode cL_law 372 = .ok (.aload_n 2, 1) := by decide +kernel
theorem dL_law_373 : decode cL_law 373 = .ok (.invokevirtual 62, 3) := by decide +kernel
theorem dL_law_376 : decode cL_law 376 = .ok (.iload 5, 2) := by decide +kernel
theorem dL_law_378 : decode cL_law 378 = .ok (.if_icmp .eq 5, 3) := by decide +kernel
theorem dL_law_383 : decode cL_law 383 = .ok (.iload 5, 2) := by decide +kernel
theorem dL_law_385 : decode cL_law 385 = .ok (.ifCond .ne 15, 3) := by decide +kernel
theorem dL_law_388 : decode cL_law 388 = .ok (.aload_n 3, 1) := by decide +kernel
theorem dL_law_389 : decode cL_law 389 = .ok (.iconst 0, 1) := by decide +kernel
theorem dL_law_390 : decode cL_law 390 = .ok (.laload, 1) := by decide +kernel
theorem dL_law_391 : decode cL_law 391 = .ok (.iload 6, 2) := by decide +kernel
theorem dL_law_393 : decode cL_law 393 = .ok (.i2l, 1) := by decide +kernel
theorem dL_law_394 : decode cL_law 394 = .ok (.lcmp, 1) := by decide +kernel
theorem dL_law_395 : decode cL_law 395 = .ok (.ifCond .eq 5, 3) := by decide +kernel
theorem dL_law_400 : decode cL_law 400 = .ok (.goto 273, 3) := by decide +kernel
theorem dL_law_403 : decode cL_law 403 = .ok (.aload_n 1, 1) := by decide +kernel
theorem dL_law_404 : decode cL_law 404 = .ok (.aload_n 0, 1) := by decide +kernel
theorem dL_law_405 : decode cL_law 405 = .ok (.iload 4, 2) := by decide +kernel
theorem dL_law_407 : decode cL_law 407 = .ok (.iconst 1, 1) := by decide +kernel
theorem dL_law_408 : decode cL_law 408 = .ok (.iadd, 1) := by decide +kernel
theorem dL_law_409 : decode cL_law 409 = .ok (.iaload, 1) := by decide +kernel
theorem dL_law_410 : decode cL_law 410 = .ok (.aload_n 3, 1) := by decide +kernel
theorem dL_law_411 : decode cL_law 411 = .ok (.invokestatic 77, 3) := by decide +kernel
theorem dL_law_414 : decode cL_law 414 = .ok (.istore 5, 2) := by decide +kernel
theorem dL_law_416 : decode cL_law 416 = .ok (.aload_n 2, 1) := by decide +kernel
theorem dL_law_417 : decode cL_law 417 = .ok (.aload_n 0, 1) := by decide +kernel
theorem dL_law_418 : decode cL_law 418 = .ok (.iload 4, 2) := by decide +kernel
theorem dL_law_420 : decode cL_law 420 = .ok (.iconst 1, 1) := by decide +kernel
theorem dL_law_421 : decode cL_law 421 = .ok (.iadd, 1) := by decide +kernel
theorem dL_law_422 : decode cL_law 422 = .ok (.iaload, 1) := by decide +kernel
theorem dL_law_423 : decode cL_law 423 = .ok (.invokevirtual 79, 3) := by decide +kernel
theorem dL_law_426 : decode cL_law 426 = .ok (.istore 6, 2) := by decide +kernel
theorem dL_law_428 : decode cL_law 428 = .ok (.aload_n 2, 1) := by decide +kernel
theorem dL_law_429 : decode cL_law 429 = .ok (.invokevirtual 62, 3) := by decide +kernel
theorem dL_law_432 : decode cL_law 432 = .ok (.iload 5, 2) := by decide +kernel
theorem dL_law_434 : decode cL_law 434 = .ok (.if_icmp .eq 5, 3) := by decide +kernel
theorem dL_law_439 : decode cL_law 439 = .ok (.iload 5, 2) := by decide +kernel
theorem dL_law_441 : decode cL_law 441 = .ok (.ifCond .ne 15, 3) := by decide +kernel
theorem dL_law_444 : decode cL_law 444 = .ok (.aload_n 3, 1) := by decide +kernel
theorem dL_law_445 : decode cL_law 445 = .ok (.iconst 0, 1) := by decide +kernel
theorem dL_law_446 : decode cL_law 446 = .ok (.laload, 1) := by decide +kernel
theorem dL_law_447 : decode cL_law 447 = .ok (.iload 6, 2) := by decide +kernel
theorem dL_law_449 : decode cL_law 449 = .ok (.i2l, 1) := by decide +kernel
theorem dL_law_450 : decode cL_law 450 = .ok (.lcmp, 1) := by decide +kernel
theorem dL_law_451 : decode cL_law 451 = .ok (.ifCond .eq 5, 3) := by decide +kernel
theorem dL_law_456 : decode cL_law 456 = .ok (.goto 217, 3) := by decide +kernel
theorem dL_law_459 : decode cL_law 459 = .ok (.aload_n 1, 1) := by decide +kernel
theorem dL_law_460 : decode cL_law 460 = .ok (.aload_n 0, 1) := by decide +kernel
theorem dL_law_461 : decode cL_law 461 = .ok (.iload 4, 2) := by decide +kernel
theorem dL_law_463 : decode cL_law 463 = .ok (.iconst 1, 1) := by decide +kernel
theorem dL_law_464 : decode cL_law 464 = .ok (.iadd, 1) := by decide +kernel
theorem dL_law_465 : decode cL_law 465 = .ok (.iaload, 1) := by decide +kernel
theorem dL_law_466 : decode cL_law 466 = .ok (.aload_n 0, 1) := by decide +kernel
theorem dL_law_467 : decode cL_law 467 = .ok (.iload 4, 2) := by decide +kernel
theorem dL_law_469 : decode cL_law 469 = .ok (.iconst 2, 1) := by decide +kernel
theorem dL_law_470 : decode cL_law 470 = .ok (.iadd, 1) := by decide +kernel
theorem dL_law_471 : decode cL_law 471 = .ok (.iaload, 1) := by decide +kernel
theorem dL_law_472 : decode cL_law 472 = .ok (.aload_n 0, 1) := by decide +kernel
theorem dL_law_473 : decode cL_law 473 = .ok (.iload 4, 2) := by decide +kernel
theorem dL_law_475 : decode cL_law 475 = .ok (.iconst 3, 1) := by decide +kernel
theorem dL_law_476 : decode cL_law 476 = .ok (.iadd, 1) := by decide +kernel
theorem dL_law_477 : decode cL_law 477 = .ok (.iaload, 1) := by decide +kernel
theorem dL_law_478 : decode cL_law 478 = .ok (.aload_n 3, 1) := by decide +kernel
theorem dL_law_479 : decode cL_law 479 = .ok (.invokestatic 80, 3) := by decide +kernel
theorem dL_law_482 : decode cL_law 482 = .ok (.istore 5, 2) := by decide +kernel
theorem dL_law_484 : decode cL_law 484 = .ok (.aload_n 2, 1) := by decide +kernel
theorem dL_law_485 : decode cL_law 485 = .ok (.aload_n 0, 1) := by decide +kernel
theorem dL_law_486 : decode cL_law 486 = .ok (.iload 4, 2) := by decide +kernel
theorem dL_law_488 : decode cL_law 488 = .ok (.iconst 1, 1) := by decide +kernel
theorem dL_law_489 : decode cL_law 489 = .ok (.iadd, 1) := by decide +kernel
theorem dL_law_490 : decode cL_law 490 = .ok (.iaload, 1) := by decide +kernel
theorem dL_law_491 : decode cL_law 491 = .ok (.aload_n 0, 1) := by decide +kernel
theorem dL_law_492 : decode cL_law 492 = .ok (.iload 4, 2) := by decide +kernel
theorem dL_law_494 : decode cL_law 494 = .ok (.iconst 2, 1) := by decide +kernel
theorem dL_law_495 : decode cL_law 495 = .ok (.iadd, 1) := by decide +kernel
theorem dL_law_496 : decode cL_law 496 = .ok (.iaload, 1) := by decide +kernel
theorem dL_law_497 : decode cL_law 497 = .ok (.aload_n 0, 1) := by decide +kernel
theorem dL_law_498 : decode cL_law 498 = .ok (.iload 4, 2) := by decide +kernel
theorem dL_law_500 : decode cL_law 500 = .ok (.iconst 3, 1) := by decide +kernel
theorem dL_law_501 : decode cL_law 501 = .ok (.iadd, 1) := by decide +kernel
theorem dL_law_502 : decode cL_law 502 = .ok (.iaload, 1) := by decide +kernel
theorem dL_law_503 : decode cL_law 503 = .ok (.invokevirtual 82, 3) := by decide +kernel
theorem dL_law_506 : decode cL_law 506 = .ok (.lstore 6, 2) := by decide +kernel
theorem dL_law_508 : decode cL_law 508 = .ok (.aload_n 2, 1) := by decide +kernel
theorem dL_law_509 : decode cL_law 509 = .ok (.invokevirtual 62, 3) := by decide +kernel
theorem dL_law_512 : decode cL_law 512 = .ok (.iload 5, 2) := by decide +kernel
theorem dL_law_514 : decode cL_law 514 = .ok (.if_icmp .eq 5, 3) := by decide +kernel
theorem dL_law_519 : decode cL_law 519 = .ok (.iload 5, 2) := by decide +kernel
theorem dL_law_521 : decode cL_law 521 = .ok (.ifCond .ne 14, 3) := by decide +kernel
theorem dL_law_524 : decode cL_law 524 = .ok (.aload_n 3, 1) := by decide +kernel
theorem dL_law_525 : decode cL_law 525 = .ok (.iconst 0, 1) := by decide +kernel
theorem dL_law_526 : decode cL_law 526 = .ok (.laload, 1) := by decide +kernel
theorem dL_law_527 : decode cL_law 527 = .ok (.lload 6, 2) := by decide +kernel
theorem dL_law_529 : decode cL_law 529 = .ok (.lcmp, 1) := by decide +kernel
theorem dL_law_530 : decode cL_law 530 = .ok (.ifCond .eq 5, 3) := by decide +kernel
theorem dL_law_535 : decode cL_law 535 = .ok (.goto 138, 3) := by decide +kernel
theorem dL_law_538 : decode cL_law 538 = .ok (.aload_n 1, 1) := by decide +kernel
theorem dL_law_539 : decode cL_law 539 = .ok (.aload_n 0, 1) := by decide +kernel
theorem dL_law_540 : decode cL_law 540 = .ok (.iload 4, 2) := by decide +kernel
theorem dL_law_542 : decode cL_law 542 = .ok (.iconst 1, 1) := by decide +kernel
theorem dL_law_543 : decode cL_law 543 = .ok (.iadd, 1) := by decide +kernel
theorem dL_law_544 : decode cL_law 544 = .ok (.iaload, 1) := by decide +kernel
theorem dL_law_545 : decode cL_law 545 = .ok (.aload_n 0, 1) := by decide +kernel
theorem dL_law_546 : decode cL_law 546 = .ok (.iload 4, 2) := by decide +kernel
theorem dL_law_548 : decode cL_law 548 = .ok (.iconst 2, 1) := by decide +kernel
theorem dL_law_549 : decode cL_law 549 = .ok (.iadd, 1) := by decide +kernel
theorem dL_law_550 : decode cL_law 550 = .ok (.iaload, 1) := by decide +kernel
theorem dL_law_551 : decode cL_law 551 = .ok (.aload_n 0, 1) := by decide +kernel
theorem dL_law_552 : decode cL_law 552 = .ok (.iload 4, 2) := by decide +kernel
theorem dL_law_554 : decode cL_law 554 = .ok (.iconst 3, 1) := by decide +kernel
theorem dL_law_555 : decode cL_law 555 = .ok (.iadd, 1) := by decide +kernel
theorem dL_law_556 : decode cL_law 556 = .ok (.iaload, 1) := by decide +kernel
theorem dL_law_557 : decode cL_law 557 = .ok (.aload_n 3, 1) := by decide +kernel
theorem dL_law_558 : decode cL_law 558 = .ok (.invokestatic 83, 3) := by decide +kernel
theorem dL_law_561 : decode cL_law 561 = .ok (.istore 5, 2) := by decide +kernel
theorem dL_law_563 : decode cL_law 563 = .ok (.aload_n 2, 1) := by decide +kernel
theorem dL_law_564 : decode cL_law 564 = .ok (.aload_n 0, 1) := by decide +kernel
theorem dL_law_565 : decode cL_law 565 = .ok (.iload 4, 2) := by decide +kernel
theorem dL_law_567 : decode cL_law 567 = .ok (.iconst 1, 1) := by decide +kernel
theorem dL_law_568 : decode cL_law 568 = .ok (.iadd, 1) := by decide +kernel
theorem dL_law_569 : decode cL_law 569 = .ok (.iaload, 1) := by decide +kernel
theorem dL_law_570 : decode cL_law 570 = .ok (.aload_n 0, 1) := by decide +kernel
theorem dL_law_571 : decode cL_law 571 = .ok (.iload 4, 2) := by decide +kernel
theorem dL_law_573 : decode cL_law 573 = .ok (.iconst 2, 1) := by decide +kernel
theorem dL_law_574 : decode cL_law 574 = .ok (.iadd, 1) := by decide +kernel
theorem dL_law_575 : decode cL_law 575 = .ok (.iaload, 1) := by decide +kernel
theorem dL_law_576 : decode cL_law 576 = .ok (.aload_n 0, 1) := by decide +kernel
theorem dL_law_577 : decode cL_law 577 = .ok (.iload 4, 2) := by decide +kernel
theorem dL_law_579 : decode cL_law 579 = .ok (.iconst 3, 1) := by decide +kernel
theorem dL_law_580 : decode cL_law 580 = .ok (.iadd, 1) := by decide +kernel
theorem dL_law_581 : decode cL_law 581 = .ok (.iaload, 1) := by decide +kernel
theorem dL_law_582 : decode cL_law 582 = .ok (.invokevirtual 85, 3) := by decide +kernel
theorem dL_law_585 : decode cL_law 585 = .ok (.lstore 6, 2) := by decide +kernel
theorem dL_law_587 : decode cL_law 587 = .ok (.aload_n 2, 1) := by decide +kernel
theorem dL_law_588 : decode cL_law 588 = .ok (.invokevirtual 62, 3) := by decide +kernel
theorem dL_law_591 : decode cL_law 591 = .ok (.iload 5, 2) := by decide +kernel
theorem dL_law_593 : decode cL_law 593 = .ok (.if_icmp .eq 5, 3) := by decide +kernel
theorem dL_law_598 : decode cL_law 598 = .ok (.iload 5, 2) := by decide +kernel
theorem dL_law_600 : decode cL_law 600 = .ok (.ifCond .ne 14, 3) := by decide +kernel
theorem dL_law_603 : decode cL_law 603 = .ok (.aload_n 3, 1) := by decide +kernel
theorem dL_law_604 : decode cL_law 604 = .ok (.iconst 0, 1) := by decide +kernel
theorem dL_law_605 : decode cL_law 605 = .ok (.laload, 1) := by decide +kernel
theorem dL_law_606 : decode cL_law 606 = .ok (.lload 6, 2) := by decide +kernel
theorem dL_law_608 : decode cL_law 608 = .ok (.lcmp, 1) := by decide +kernel
theorem dL_law_609 : decode cL_law 609 = .ok (.ifCond .eq 5, 3) := by decide +kernel
theorem dL_law_614 : decode cL_law 614 = .ok (.goto 59, 3) := by decide +kernel
theorem dL_law_617 : decode cL_law 617 = .ok (.aload_n 1, 1) := by decide +kernel
theorem dL_law_618 : decode cL_law 618 = .ok (.aload_n 0, 1) := by decide +kernel
theorem dL_law_619 : decode cL_law 619 = .ok (.iload 4, 2) := by decide +kernel
theorem dL_law_621 : decode cL_law 621 = .ok (.iconst 1, 1) := by decide +kernel
theorem dL_law_622 : decode cL_law 622 = .ok (.iadd, 1) := by decide +kernel
theorem dL_law_623 : decode cL_law 623 = .ok (.iaload, 1) := by decide +kernel
theorem dL_law_624 : decode cL_law 624 = .ok (.aload_n 3, 1) := by decide +kernel
theorem dL_law_625 : decode cL_law 625 = .ok (.invokestatic 86, 3) := by decide +kernel
theorem dL_law_628 : decode cL_law 628 = .ok (.istore 5, 2) := by decide +kernel
theorem dL_law_630 : decode cL_law 630 = .ok (.aload_n 2, 1) := by decide +kernel
theorem dL_law_631 : decode cL_law 631 = .ok (.aload_n 0, 1) := by decide +kernel
theorem dL_law_632 : decode cL_law 632 = .ok (.iload 4, 2) := by decide +kernel
theorem dL_law_634 : decode cL_law 634 = .ok (.iconst 1, 1) := by decide +kernel
theorem dL_law_635 : decode cL_law 635 = .ok (.iadd, 1) := by decide +kernel
theorem dL_law_636 : decode cL_law 636 = .ok (.iaload, 1) := by decide +kernel
theorem dL_law_637 : decode cL_law 637 = .ok (.invokevirtual 88, 3) := by decide +kernel
theorem dL_law_640 : decode cL_law 640 = .ok (.istore 6, 2) := by decide +kernel
theorem dL_law_642 : decode cL_law 642 = .ok (.aload_n 2, 1) := by decide +kernel
theorem dL_law_643 : decode cL_law 643 = .ok (.invokevirtual 62, 3) := by decide +kernel
theorem dL_law_646 : decode cL_law 646 = .ok (.iload 5, 2) := by decide +kernel
theorem dL_law_648 : decode cL_law 648 = .ok (.if_icmp .eq 5, 3) := by decide +kernel
theorem dL_law_653 : decode cL_law 653 = .ok (.iload 5, 2) := by decide +kernel
theorem dL_law_655 : decode cL_law 655 = .ok (.ifCond .ne 15, 3) := by decide +kernel
theorem dL_law_658 : decode cL_law 658 = .ok (.aload_n 3, 1) := by decide +kernel
theorem dL_law_659 : decode cL_law 659 = .ok (.iconst 0, 1) := by decide +kernel
theorem dL_law_660 : decode cL_law 660 = .ok (.laload, 1) := by decide +kernel
theorem dL_law_661 : decode cL_law 661 = .ok (.iload 6, 2) := by decide +kernel
theorem dL_law_663 : decode cL_law 663 = .ok (.i2l, 1) := by decide +kernel
theorem dL_law_664 : decode cL_law 664 = .ok (.lcmp, 1) := by decide +kernel
theorem dL_law_665 : decode cL_law 665 = .ok (.ifCond .eq 5, 3) := by decide +kernel
theorem dL_law_670 : decode cL_law 670 = .ok (.goto 3, 3) := by decide +kernel
theorem dL_law_673 : decode cL_law 673 = .ok (.iinc 4 5, 3) := by decide +kernel
theorem dL_law_676 : decode cL_law 676 = .ok (.goto (-653), 3) := by decide +kernel
theorem dL_law_679 : decode cL_law 679 = .ok (.iconst 1, 1) := by decide +kernel
theorem dL_law_680 : decode cL_law 680 = .ok (.ireturn, 1) := by decide +kernel
abbrev vwCl : List vw_C := [(RJx3273f, TJx3273f, 6), (RJxde1cd, TJxde1cd, 6), (RX1, TX1, 6), (RX2, TX2, 7), (RX4, TX4, 5), (RX5, TX5, 4), (RX6, TX6, 7), (RX7, TX7, 1), (RX8, TX8, 17)]
/-! printed names, those that are used -/
