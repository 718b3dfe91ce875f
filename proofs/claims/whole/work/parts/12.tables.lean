/-! Printed by wip/whole/gen_tables.py: the classes, their fields, the methods, what the pools name; and where each word of it stands in lw_tbl. -/
def tb_on : List String := ["ConditionDesk$Builder", "ConditionDesk$Condition", "ConditionDesk$Machine", "ConditionDesk$Pile", "ConditionDesk$Program", "ConditionDesk$Text", "ConditionDesk$Tokens", "ConditionDesk$Worker", "ConditionDesk", "ConditionDeskModel", "ConditionDeskLaw"]
def tb_T0 : u_T := fun k => match k with
  | 0 => ("ConditionDesk$Builder", "text", "LConditionDesk$Text;", true)
  | 1 => ("ConditionDesk$Builder", "tokens", "LConditionDesk$Tokens;", true)
  | 2 => ("ConditionDesk$Builder", "program", "LConditionDesk$Program;", true)
  | 3 => ("ConditionDesk$Builder", "waiting", "LConditionDesk$Pile;", true)
  | 4 => ("ConditionDesk$Builder", "operands", "LConditionDesk$Pile;", true)
  | 5 => ("ConditionDesk$Builder", "open", "LConditionDesk$Pile;", true)
  | _ => ("ConditionDesk$Builder", "state", "I", false)
def tb_y0 : Nat → FieldType := fun k => match k with
  | 0 => .object "ConditionDesk$Text"
  | 1 => .object "ConditionDesk$Tokens"
  | 2 => .object "ConditionDesk$Program"
  | 3 => .object "ConditionDesk$Pile"
  | 4 => .object "ConditionDesk$Pile"
  | 5 => .object "ConditionDesk$Pile"
  | _ => .int
def tb_T1 : u_T := fun k => match k with
  | 0 => ("ConditionDesk$Condition", "worker", "LConditionDesk$Worker;", true)
  | 1 => ("ConditionDesk$Condition", "there", "Z", false)
  | 2 => ("ConditionDesk$Condition", "ignoring", "I", false)
  | 3 => ("ConditionDesk$Condition", "value", "J", false)
  | 4 => ("ConditionDesk$Condition", "hits", "J", false)
  | 5 => ("ConditionDesk$Condition", "failures", "J", false)
  | _ => ("ConditionDesk$Condition", "steps", "J", false)
def tb_y1 : Nat → FieldType := fun k => match k with
  | 0 => .object "ConditionDesk$Worker"
  | 1 => .boolean
  | 2 => .int
  | 3 => .long
  | 4 => .long
  | 5 => .long
  | _ => .long
def tb_T2 : u_T := fun k => match k with
  | 0 => ("ConditionDesk$Machine", "registers", "[I", true)
  | 1 => ("ConditionDesk$Machine", "cells", "[I", true)
  | _ => ("ConditionDesk$Machine", "count", "J", false)
def tb_y2 : Nat → FieldType := fun k => match k with
  | 0 => .array .int
  | 1 => .array .int
  | _ => .long
def tb_T3 : u_T := fun k => match k with
  | 0 => ("ConditionDesk$Pile", "entries", "[I", true)
  | _ => ("ConditionDesk$Pile", "size", "I", false)
def tb_y3 : Nat → FieldType := fun k => match k with
  | 0 => .array .int
  | _ => .int
def tb_T4 : u_T := fun k => match k with
  | 0 => ("ConditionDesk$Program", "kinds", "[I", true)
  | 1 => ("ConditionDesk$Program", "lefts", "[I", true)
  | 2 => ("ConditionDesk$Program", "rights", "[I", true)
  | 3 => ("ConditionDesk$Program", "values", "[J", true)
  | 4 => ("ConditionDesk$Program", "size", "I", false)
  | _ => ("ConditionDesk$Program", "parts", "I", false)
def tb_y4 : Nat → FieldType := fun k => match k with
  | 0 => .array .int
  | 1 => .array .int
  | 2 => .array .int
  | 3 => .array .long
  | 4 => .int
  | _ => .int
def tb_T5 : u_T := fun k => match k with
  | 0 => ("ConditionDesk$Text", "letters", "[C", true)
  | _ => ("ConditionDesk$Text", "length", "I", false)
def tb_y5 : Nat → FieldType := fun k => match k with
  | 0 => .array .char
  | _ => .int
def tb_T6 : u_T := fun k => match k with
  | 0 => ("ConditionDesk$Tokens", "text", "LConditionDesk$Text;", true)
  | 1 => ("ConditionDesk$Tokens", "start", "I", false)
  | 2 => ("ConditionDesk$Tokens", "behind", "I", false)
  | 3 => ("ConditionDesk$Tokens", "kind", "I", false)
  | _ => ("ConditionDesk$Tokens", "value", "J", false)
def tb_y6 : Nat → FieldType := fun k => match k with
  | 0 => .object "ConditionDesk$Text"
  | 1 => .int
  | 2 => .int
  | 3 => .int
  | _ => .long
def tb_T7 : u_T := fun k => match k with
  | 0 => ("ConditionDesk$Worker", "machine", "LConditionDesk$Machine;", true)
  | 1 => ("ConditionDesk$Worker", "program", "LConditionDesk$Program;", true)
  | 2 => ("ConditionDesk$Worker", "remembered", "[J", true)
  | 3 => ("ConditionDesk$Worker", "present", "[J", true)
  | 4 => ("ConditionDesk$Worker", "workedBefore", "Z", false)
  | 5 => ("ConditionDesk$Worker", "steps", "I", false)
  | _ => ("ConditionDesk$Worker", "failure", "I", false)
def tb_y7 : Nat → FieldType := fun k => match k with
  | 0 => .object "ConditionDesk$Machine"
  | 1 => .object "ConditionDesk$Program"
  | 2 => .array .long
  | 3 => .array .long
  | 4 => .boolean
  | 5 => .int
  | _ => .int
def tb_T8 : u_T := fun k => match k with
  | 0 => ("ConditionDesk", "text", "LConditionDesk$Text;", true)
  | 1 => ("ConditionDesk", "machine", "LConditionDesk$Machine;", true)
  | 2 => ("ConditionDesk", "builder", "LConditionDesk$Builder;", true)
  | 3 => ("ConditionDesk", "conditions", "[LConditionDesk$Condition;", true)
  | _ => ("ConditionDesk", "allSteps", "J", false)
def tb_y8 : Nat → FieldType := fun k => match k with
  | 0 => .object "ConditionDesk$Text"
  | 1 => .object "ConditionDesk$Machine"
  | 2 => .object "ConditionDesk$Builder"
  | 3 => .array (.object "ConditionDesk$Condition")
  | _ => .long
def tb_T9 : u_T := fun k => match k with
  | 0 => ("ConditionDeskModel", "code", "I", false)
  | 1 => ("ConditionDeskModel", "size", "I", false)
  | 2 => ("ConditionDeskModel", "text", "[C", true)
  | 3 => ("ConditionDeskModel", "registers", "[I", true)
  | 4 => ("ConditionDeskModel", "cells", "[I", true)
  | 5 => ("ConditionDeskModel", "machineCount", "J", false)
  | 6 => ("ConditionDeskModel", "there", "[Z", true)
  | 7 => ("ConditionDeskModel", "asked", "[Z", true)
  | 8 => ("ConditionDeskModel", "many", "[I", true)
  | 9 => ("ConditionDeskModel", "parts", "[I", true)
  | 10 => ("ConditionDeskModel", "ignored", "[I", true)
  | 11 => ("ConditionDeskModel", "fails", "[I", true)
  | 12 => ("ConditionDeskModel", "steps", "[I", true)
  | 13 => ("ConditionDeskModel", "value", "[J", true)
  | 14 => ("ConditionDeskModel", "hits", "[J", true)
  | 15 => ("ConditionDeskModel", "kind", "[I", true)
  | 16 => ("ConditionDeskModel", "partner", "[I", true)
  | 17 => ("ConditionDeskModel", "number", "[J", true)
  | 18 => ("ConditionDeskModel", "before", "[J", true)
  | 19 => ("ConditionDeskModel", "next", "[J", true)
  | 20 => ("ConditionDeskModel", "allSteps", "J", false)
  | 21 => ("ConditionDeskModel", "at", "I", false)
  | 22 => ("ConditionDeskModel", "token", "I", false)
  | 23 => ("ConditionDeskModel", "start", "I", false)
  | 24 => ("ConditionDeskModel", "tokens", "I", false)
  | 25 => ("ConditionDeskModel", "opened", "I", false)
  | 26 => ("ConditionDeskModel", "fault", "I", false)
  | 27 => ("ConditionDeskModel", "tokenValue", "J", false)
  | 28 => ("ConditionDeskModel", "newKind", "[I", true)
  | 29 => ("ConditionDeskModel", "newPartner", "[I", true)
  | 30 => ("ConditionDeskModel", "openAt", "[I", true)
  | 31 => ("ConditionDeskModel", "newNumber", "[J", true)
  | 32 => ("ConditionDeskModel", "begun", "I", false)
  | 33 => ("ConditionDeskModel", "worked", "I", false)
  | 34 => ("ConditionDeskModel", "failed", "I", false)
  | 35 => ("ConditionDeskModel", "result", "J", false)
  | 36 => ("ConditionDeskModel", "first", "[I", true)
  | 37 => ("ConditionDeskModel", "last", "[I", true)
  | 38 => ("ConditionDeskModel", "sign", "[I", true)
  | 39 => ("ConditionDeskModel", "stage", "[I", true)
  | _ => ("ConditionDeskModel", "left", "[J", true)
def tb_y9 : Nat → FieldType := fun k => match k with
  | 0 => .int
  | 1 => .int
  | 2 => .array .char
  | 3 => .array .int
  | 4 => .array .int
  | 5 => .long
  | 6 => .array .boolean
  | 7 => .array .boolean
  | 8 => .array .int
  | 9 => .array .int
  | 10 => .array .int
  | 11 => .array .int
  | 12 => .array .int
  | 13 => .array .long
  | 14 => .array .long
  | 15 => .array .int
  | 16 => .array .int
  | 17 => .array .long
  | 18 => .array .long
  | 19 => .array .long
  | 20 => .long
  | 21 => .int
  | 22 => .int
  | 23 => .int
  | 24 => .int
  | 25 => .int
  | 26 => .int
  | 27 => .long
  | 28 => .array .int
  | 29 => .array .int
  | 30 => .array .int
  | 31 => .array .long
  | 32 => .int
  | 33 => .int
  | 34 => .int
  | 35 => .long
  | 36 => .array .int
  | 37 => .array .int
  | 38 => .array .int
  | 39 => .array .int
  | _ => .array .long
def tb_cl : List vw_C := [("ConditionDesk$Builder", tb_T0, 7), ("ConditionDesk$Condition", tb_T1, 7), ("ConditionDesk$Machine", tb_T2, 3), ("ConditionDesk$Pile", tb_T3, 2), ("ConditionDesk$Program", tb_T4, 6), ("ConditionDesk$Text", tb_T5, 2), ("ConditionDesk$Tokens", tb_T6, 5), ("ConditionDesk$Worker", tb_T7, 7), ("ConditionDesk", tb_T8, 5), ("ConditionDeskModel", tb_T9, 41)]
def tb_ft (c : Nat) : Nat → FieldType := match c with
  | 0 => tb_y0
  | 1 => tb_y1
  | 2 => tb_y2
  | 3 => tb_y3
  | 4 => tb_y4
  | 5 => tb_y5
  | 6 => tb_y6
  | 7 => tb_y7
  | 8 => tb_y8
  | _ => tb_y9
def tb_tt : List FieldType := [.int, .long, .char, .boolean, .object "ConditionDesk$Condition"]
def tb_ta (a : Jvm.ClassFile.ArrayType) : Option Nat := match a with
  | .int => some 0
  | .long => some 1
  | .char => some 2
  | .boolean => some 3
  | _ => none
def tb_nM : Nat := 136
def tb_mt0 : List (MethodName × ByteArray × Nat × Option FieldType × Nat × Bool) := [(⟨"ConditionDesk", "<init>", "()V"⟩, prog_1_method_1_code, 2, (Option.none : Option  FieldType), 8, true),
  (⟨"ConditionDesk$Text", "<init>", "()V"⟩, prog_7_method_1_code, 1, (Option.none : Option  FieldType), 5, true),
  (⟨"ConditionDesk$Machine", "<init>", "()V"⟩, prog_4_method_1_code, 1, (Option.none : Option  FieldType), 2, true),
  (⟨"ConditionDesk$Builder", "<init>", "(LConditionDesk$Text;)V"⟩, prog_2_method_1_code, 2, (Option.none : Option  FieldType), 0, true),
  (⟨"ConditionDesk$Program", "<init>", "()V"⟩, prog_6_method_1_code, 1, (Option.none : Option  FieldType), 4, true),
  (⟨"ConditionDesk$Pile", "<init>", "(I)V"⟩, prog_5_method_1_code, 2, (Option.none : Option  FieldType), 3, true),
  (⟨"ConditionDesk$Tokens", "<init>", "(LConditionDesk$Text;)V"⟩, prog_8_method_1_code, 2, (Option.none : Option  FieldType), 6, true),
  (⟨"ConditionDesk$Condition", "<init>", "(LConditionDesk$Machine;)V"⟩, prog_3_method_1_code, 2, (Option.none : Option  FieldType), 1, true),
  (⟨"ConditionDesk$Worker", "<init>", "(LConditionDesk$Machine;)V"⟩, prog_9_method_1_code, 2, (Option.none : Option  FieldType), 7, true),
  (⟨"ConditionDesk", "type", "(C)Z"⟩, prog_1_method_2_code, 2, (Option.some  FieldType.boolean), 8, false),
  (⟨"ConditionDesk$Text", "append", "(C)Z"⟩, prog_7_method_2_code, 2, (Option.some  FieldType.boolean), 5, false),
  (⟨"ConditionDesk", "go", "(J)V"⟩, prog_1_method_6_code, 3, (Option.none : Option  FieldType), 8, false),
  (⟨"ConditionDesk", "askAll", "()I"⟩, prog_1_method_10_code, 4, (Option.some  FieldType.int), 8, false),
  (⟨"ConditionDesk$Condition", "answer", "()I"⟩, prog_3_method_3_code, 1, (Option.some  FieldType.int), 1, false),
  (⟨"ConditionDesk$Worker", "workAll", "()J"⟩, prog_9_method_3_code, 5, (Option.some  FieldType.long), 7, false),
  (⟨"ConditionDesk$Worker", "work", "(II)J"⟩, prog_9_method_6_code, 4, (Option.some  FieldType.long), 7, false)]
def tb_mt1 : List (MethodName × ByteArray × Nat × Option FieldType × Nat × Bool) := [(⟨"ConditionDesk$Program", "has", "(I)Z"⟩, prog_6_method_5_code, 2, (Option.some  FieldType.boolean), 4, false),
  (⟨"ConditionDesk$Program", "kindAt", "(I)I"⟩, prog_6_method_6_code, 2, (Option.some  FieldType.int), 4, false),
  (⟨"ConditionDesk$Program", "valueAt", "(I)J"⟩, prog_6_method_9_code, 2, (Option.some  FieldType.long), 4, false),
  (⟨"ConditionDesk$Machine", "registerAt", "(J)I"⟩, prog_4_method_3_code, 3, (Option.some  FieldType.int), 2, false),
  (⟨"ConditionDesk$Worker", "rememberedAt", "(I)J"⟩, prog_9_method_5_code, 2, (Option.some  FieldType.long), 7, false),
  (⟨"ConditionDesk$Program", "leftOf", "(I)I"⟩, prog_6_method_7_code, 2, (Option.some  FieldType.int), 4, false),
  (⟨"ConditionDesk$Worker", "workChanged", "(II)J"⟩, prog_9_method_7_code, 5, (Option.some  FieldType.long), 7, false),
  (⟨"ConditionDesk$Worker", "truth", "(Z)J"⟩, prog_9_method_15_code, 1, (Option.some  FieldType.long), 7, false),
  (⟨"ConditionDesk$Worker", "access", "(IJ)J"⟩, prog_9_method_11_code, 6, (Option.some  FieldType.long), 7, false),
  (⟨"ConditionDesk$Machine", "byteAt", "(I)J"⟩, prog_4_method_5_code, 2, (Option.some  FieldType.long), 2, false),
  (⟨"ConditionDesk$Machine", "halfAt", "(I)J"⟩, prog_4_method_6_code, 2, (Option.some  FieldType.long), 2, false),
  (⟨"ConditionDesk$Machine", "wordAt", "(I)J"⟩, prog_4_method_7_code, 2, (Option.some  FieldType.long), 2, false),
  (⟨"ConditionDesk$Worker", "before", "(IJ)J"⟩, prog_9_method_12_code, 3, (Option.some  FieldType.long), 7, false),
  (⟨"ConditionDesk$Worker", "workTruth", "(II)J"⟩, prog_9_method_8_code, 5, (Option.some  FieldType.long), 7, false),
  (⟨"ConditionDesk$Program", "rightOf", "(I)I"⟩, prog_6_method_8_code, 2, (Option.some  FieldType.int), 4, false),
  (⟨"ConditionDesk$Worker", "workBetween", "(II)J"⟩, prog_9_method_9_code, 8, (Option.some  FieldType.long), 7, false)]
def tb_mt2 : List (MethodName × ByteArray × Nat × Option FieldType × Nat × Bool) := [(⟨"ConditionDesk$Worker", "divide", "(IJJ)J"⟩, prog_9_method_10_code, 6, (Option.some  FieldType.long), 7, false),
  (⟨"ConditionDesk", "compares", "(I)Z"⟩, prog_1_method_17_code, 1, (Option.some  FieldType.boolean), 8, false),
  (⟨"ConditionDesk$Worker", "compare", "(IJJ)Z"⟩, prog_9_method_13_code, 5, (Option.some  FieldType.boolean), 7, false),
  (⟨"ConditionDesk$Worker", "combine", "(IJJ)J"⟩, prog_9_method_14_code, 5, (Option.some  FieldType.long), 7, false),
  (⟨"ConditionDesk$Worker", "remember", "()V"⟩, prog_9_method_4_code, 5, (Option.none : Option  FieldType), 7, false),
  (⟨"ConditionDesk", "count", "(I)J"⟩, prog_1_method_12_code, 2, (Option.some  FieldType.long), 8, false),
  (⟨"ConditionDesk", "conditionsThere", "()I"⟩, prog_1_method_14_code, 4, (Option.some  FieldType.int), 8, false),
  (⟨"ConditionDesk", "compile", "(I)I"⟩, prog_1_method_3_code, 4, (Option.some  FieldType.int), 8, false),
  (⟨"ConditionDesk", "conditionAt", "(I)LConditionDesk$Condition;"⟩, prog_1_method_13_code, 2, (Option.some (FieldType.object "ConditionDesk$Condition")), 8, false),
  (⟨"ConditionDesk$Builder", "build", "()I"⟩, prog_2_method_2_code, 3, (Option.some  FieldType.int), 0, false),
  (⟨"ConditionDesk$Builder", "restart", "()V"⟩, prog_2_method_3_code, 1, (Option.none : Option  FieldType), 0, false),
  (⟨"ConditionDesk$Tokens", "restart", "()V"⟩, prog_8_method_2_code, 1, (Option.none : Option  FieldType), 6, false),
  (⟨"ConditionDesk$Program", "clear", "()V"⟩, prog_6_method_2_code, 1, (Option.none : Option  FieldType), 4, false),
  (⟨"ConditionDesk$Pile", "clear", "()V"⟩, prog_5_method_5_code, 1, (Option.none : Option  FieldType), 3, false),
  (⟨"ConditionDesk$Tokens", "next", "()V"⟩, prog_8_method_3_code, 2, (Option.none : Option  FieldType), 6, false),
  (⟨"ConditionDesk$Tokens", "skipBlanks", "()V"⟩, prog_8_method_4_code, 1, (Option.none : Option  FieldType), 6, false)]
def tb_mt3 : List (MethodName × ByteArray × Nat × Option FieldType × Nat × Bool) := [(⟨"ConditionDesk$Text", "letterAt", "(I)C"⟩, prog_7_method_3_code, 2, (Option.some  FieldType.char), 5, false),
  (⟨"ConditionDesk$Tokens", "isDigit", "(C)Z"⟩, prog_8_method_14_code, 1, (Option.some  FieldType.boolean), 6, false),
  (⟨"ConditionDesk$Tokens", "readNumber", "()V"⟩, prog_8_method_5_code, 5, (Option.none : Option  FieldType), 6, false),
  (⟨"ConditionDesk$Tokens", "digitOf", "(C)I"⟩, prog_8_method_17_code, 1, (Option.some  FieldType.int), 6, false),
  (⟨"ConditionDesk$Tokens", "isLetterOrDigit", "(C)Z"⟩, prog_8_method_16_code, 1, (Option.some  FieldType.boolean), 6, false),
  (⟨"ConditionDesk$Tokens", "isLetter", "(C)Z"⟩, prog_8_method_15_code, 1, (Option.some  FieldType.boolean), 6, false),
  (⟨"ConditionDesk$Tokens", "readWord", "()V"⟩, prog_8_method_6_code, 2, (Option.none : Option  FieldType), 6, false),
  (⟨"ConditionDesk$Tokens", "registerOfWord", "()I"⟩, prog_8_method_7_code, 5, (Option.some  FieldType.int), 6, false),
  (⟨"ConditionDesk$Tokens", "isWord", "(Ljava/lang/String;)Z"⟩, prog_8_method_9_code, 3, (Option.some  FieldType.boolean), 6, false),
  (⟨"ConditionDesk$Tokens", "kindOfWord", "()I"⟩, prog_8_method_8_code, 1, (Option.some  FieldType.int), 6, false),
  (⟨"ConditionDesk$Tokens", "readSign", "()V"⟩, prog_8_method_10_code, 3, (Option.none : Option  FieldType), 6, false),
  (⟨"ConditionDesk$Tokens", "kindOfDouble", "(C)I"⟩, prog_8_method_11_code, 1, (Option.some  FieldType.int), 6, false),
  (⟨"ConditionDesk$Tokens", "kindWithEqual", "(C)I"⟩, prog_8_method_12_code, 1, (Option.some  FieldType.int), 6, false),
  (⟨"ConditionDesk$Tokens", "kindOfSingle", "(C)I"⟩, prog_8_method_13_code, 1, (Option.some  FieldType.int), 6, false),
  (⟨"ConditionDesk$Builder", "faultOf", "(I)I"⟩, prog_2_method_4_code, 2, (Option.some  FieldType.int), 0, false),
  (⟨"ConditionDesk$Builder", "fits", "(I)Z"⟩, prog_2_method_5_code, 2, (Option.some  FieldType.boolean), 0, false)]
def tb_mt4 : List (MethodName × ByteArray × Nat × Option FieldType × Nat × Bool) := [(⟨"ConditionDesk$Builder", "beginsOperand", "(I)Z"⟩, prog_2_method_6_code, 1, (Option.some  FieldType.boolean), 0, false),
  (⟨"ConditionDesk$Builder", "followsOperand", "(I)Z"⟩, prog_2_method_7_code, 2, (Option.some  FieldType.boolean), 0, false),
  (⟨"ConditionDesk$Pile", "top", "()I"⟩, prog_5_method_3_code, 1, (Option.some  FieldType.int), 3, false),
  (⟨"ConditionDesk", "standsBetween", "(I)Z"⟩, prog_1_method_16_code, 1, (Option.some  FieldType.boolean), 8, false),
  (⟨"ConditionDesk$Builder", "isPart", "(I)Z"⟩, prog_2_method_8_code, 1, (Option.some  FieldType.boolean), 0, false),
  (⟨"ConditionDesk$Builder", "opens", "(I)Z"⟩, prog_2_method_9_code, 1, (Option.some  FieldType.boolean), 0, false),
  (⟨"ConditionDesk$Builder", "settle", "(I)V"⟩, prog_2_method_15_code, 3, (Option.none : Option  FieldType), 0, false),
  (⟨"ConditionDesk", "strengthOf", "(I)I"⟩, prog_1_method_15_code, 1, (Option.some  FieldType.int), 8, false),
  (⟨"ConditionDesk$Builder", "settleOne", "()V"⟩, prog_2_method_16_code, 4, (Option.none : Option  FieldType), 0, false),
  (⟨"ConditionDesk$Pile", "pop", "()I"⟩, prog_5_method_4_code, 1, (Option.some  FieldType.int), 3, false),
  (⟨"ConditionDesk$Program", "add", "(IIIJ)I"⟩, prog_6_method_3_code, 7, (Option.some  FieldType.int), 4, false),
  (⟨"ConditionDesk$Pile", "push", "(I)V"⟩, prog_5_method_2_code, 2, (Option.none : Option  FieldType), 3, false),
  (⟨"ConditionDesk$Builder", "take", "(I)V"⟩, prog_2_method_10_code, 2, (Option.none : Option  FieldType), 0, false),
  (⟨"ConditionDesk$Builder", "takeOpening", "(I)V"⟩, prog_2_method_11_code, 2, (Option.none : Option  FieldType), 0, false),
  (⟨"ConditionDesk$Builder", "takeBehindOperand", "(I)V"⟩, prog_2_method_13_code, 2, (Option.none : Option  FieldType), 0, false),
  (⟨"ConditionDesk$Builder", "takesBrackets", "(I)Z"⟩, prog_2_method_14_code, 1, (Option.some  FieldType.boolean), 0, false)]
def tb_mt5 : List (MethodName × ByteArray × Nat × Option FieldType × Nat × Bool) := [(⟨"ConditionDesk$Builder", "takeBeforeOperand", "(I)V"⟩, prog_2_method_12_code, 2, (Option.none : Option  FieldType), 0, false),
  (⟨"ConditionDesk$Text", "clear", "()V"⟩, prog_7_method_4_code, 1, (Option.none : Option  FieldType), 5, false),
  (⟨"ConditionDesk$Condition", "begin", "(LConditionDesk$Program;)V"⟩, prog_3_method_2_code, 2, (Option.none : Option  FieldType), 1, false),
  (⟨"ConditionDesk$Worker", "begin", "(LConditionDesk$Program;)V"⟩, prog_9_method_2_code, 2, (Option.none : Option  FieldType), 7, false),
  (⟨"ConditionDesk$Program", "copyFrom", "(LConditionDesk$Program;)V"⟩, prog_6_method_4_code, 2, (Option.none : Option  FieldType), 4, false),
  (⟨"ConditionDesk", "drop", "(I)Z"⟩, prog_1_method_4_code, 4, (Option.some  FieldType.boolean), 8, false),
  (⟨"ConditionDesk", "set", "(II)V"⟩, prog_1_method_5_code, 3, (Option.none : Option  FieldType), 8, false),
  (⟨"ConditionDesk$Machine", "putRegister", "(II)V"⟩, prog_4_method_2_code, 3, (Option.none : Option  FieldType), 2, false),
  (⟨"ConditionDesk", "poke", "(II)V"⟩, prog_1_method_7_code, 3, (Option.none : Option  FieldType), 8, false),
  (⟨"ConditionDesk$Machine", "putCell", "(II)V"⟩, prog_4_method_4_code, 3, (Option.none : Option  FieldType), 2, false),
  (⟨"ConditionDesk", "ignore", "(II)I"⟩, prog_1_method_8_code, 5, (Option.some  FieldType.int), 8, false),
  (⟨"ConditionDesk", "ask", "(I)I"⟩, prog_1_method_9_code, 4, (Option.some  FieldType.int), 8, false),
  (⟨"ConditionDesk", "about", "(II)J"⟩, prog_1_method_11_code, 4, (Option.some  FieldType.long), 8, false),
  (⟨"ConditionDesk$Condition", "tell", "(I)J"⟩, prog_3_method_4_code, 2, (Option.some  FieldType.long), 1, false),
  (⟨"ConditionDeskModel", "<init>", "()V"⟩, prog_11_method_1_code, 1, (Option.none : Option  FieldType), 9, true),
  (⟨"ConditionDeskModel", "thrown", "()I"⟩, prog_11_method_2_code, 1, (Option.some  FieldType.int), 9, false)]
def tb_mt6 : List (MethodName × ByteArray × Nat × Option FieldType × Nat × Bool) := [(⟨"ConditionDeskModel", "type", "(C)Z"⟩, prog_11_method_5_code, 2, (Option.some  FieldType.boolean), 9, false),
  (⟨"ConditionDeskModel", "compile", "(I)I"⟩, prog_11_method_19_code, 4, (Option.some  FieldType.int), 9, false),
  (⟨"ConditionDeskModel", "in", "(JJJ)Z"⟩, prog_11_method_4_code, 6, (Option.some  FieldType.boolean), 9, false),
  (⟨"ConditionDeskModel", "refuses", "(ZZ)Z"⟩, prog_11_method_3_code, 3, (Option.some  FieldType.boolean), 9, false),
  (⟨"ConditionDeskModel", "read", "()I"⟩, prog_11_method_18_code, 6, (Option.some  FieldType.int), 9, false),
  (⟨"ConditionDeskModel", "charAt", "(I)I"⟩, prog_11_method_6_code, 2, (Option.some  FieldType.int), 9, false),
  (⟨"ConditionDeskModel", "scan", "()V"⟩, prog_11_method_10_code, 5, (Option.none : Option  FieldType), 9, false),
  (⟨"ConditionDeskModel", "isPlain", "(I)Z"⟩, prog_11_method_8_code, 1, (Option.some  FieldType.boolean), 9, false),
  (⟨"ConditionDeskModel", "isDigit", "(I)Z"⟩, prog_11_method_7_code, 1, (Option.some  FieldType.boolean), 9, false),
  (⟨"ConditionDeskModel", "scanNumber", "()V"⟩, prog_11_method_11_code, 5, (Option.none : Option  FieldType), 9, false),
  (⟨"ConditionDeskModel", "scanWord", "()V"⟩, prog_11_method_12_code, 3, (Option.none : Option  FieldType), 9, false),
  (⟨"ConditionDeskModel", "is", "(IIJ)Z"⟩, prog_11_method_9_code, 8, (Option.some  FieldType.boolean), 9, false),
  (⟨"ConditionDeskModel", "begins", "(I)Z"⟩, prog_11_method_14_code, 1, (Option.some  FieldType.boolean), 9, false),
  (⟨"ConditionDeskModel", "isBetween", "(I)Z"⟩, prog_11_method_15_code, 1, (Option.some  FieldType.boolean), 9, false),
  (⟨"ConditionDeskModel", "meet", "(II)V"⟩, prog_11_method_13_code, 3, (Option.none : Option  FieldType), 9, false),
  (⟨"ConditionDeskModel", "shut", "()V"⟩, prog_11_method_17_code, 1, (Option.none : Option  FieldType), 9, false)]
def tb_mt7 : List (MethodName × ByteArray × Nat × Option FieldType × Nat × Bool) := [(⟨"ConditionDeskModel", "take", "()V"⟩, prog_11_method_16_code, 1, (Option.none : Option  FieldType), 9, false),
  (⟨"ConditionDeskModel", "drop", "(I)Z"⟩, prog_11_method_20_code, 3, (Option.some  FieldType.boolean), 9, false),
  (⟨"ConditionDeskModel", "set", "(II)V"⟩, prog_11_method_21_code, 3, (Option.none : Option  FieldType), 9, false),
  (⟨"ConditionDeskModel", "go", "(J)V"⟩, prog_11_method_22_code, 3, (Option.none : Option  FieldType), 9, false),
  (⟨"ConditionDeskModel", "poke", "(II)V"⟩, prog_11_method_23_code, 3, (Option.none : Option  FieldType), 9, false),
  (⟨"ConditionDeskModel", "ignore", "(II)I"⟩, prog_11_method_37_code, 4, (Option.some  FieldType.int), 9, false),
  (⟨"ConditionDeskModel", "ask", "(I)I"⟩, prog_11_method_39_code, 2, (Option.some  FieldType.int), 9, false),
  (⟨"ConditionDeskModel", "asking", "(I)I"⟩, prog_11_method_38_code, 5, (Option.some  FieldType.int), 9, false),
  (⟨"ConditionDeskModel", "work", "(III)J"⟩, prog_11_method_29_code, 6, (Option.some  FieldType.long), 9, false),
  (⟨"ConditionDeskModel", "begin", "(II)V"⟩, prog_11_method_26_code, 3, (Option.none : Option  FieldType), 9, false),
  (⟨"ConditionDeskModel", "enter", "(II)V"⟩, prog_11_method_30_code, 5, (Option.none : Option  FieldType), 9, false),
  (⟨"ConditionDeskModel", "least", "(II)I"⟩, prog_11_method_25_code, 7, (Option.some  FieldType.int), 9, false),
  (⟨"ConditionDeskModel", "rank", "(I)I"⟩, prog_11_method_24_code, 1, (Option.some  FieldType.int), 9, false),
  (⟨"ConditionDeskModel", "give", "(J)V"⟩, prog_11_method_27_code, 3, (Option.none : Option  FieldType), 9, false),
  (⟨"ConditionDeskModel", "half", "(I)V"⟩, prog_11_method_31_code, 3, (Option.none : Option  FieldType), 9, false),
  (⟨"ConditionDeskModel", "join", "(II)V"⟩, prog_11_method_33_code, 10, (Option.none : Option  FieldType), 9, false)]
def tb_mt8 : List (MethodName × ByteArray × Nat × Option FieldType × Nat × Bool) := [(⟨"ConditionDeskModel", "truth", "(Z)J"⟩, prog_11_method_32_code, 1, (Option.some  FieldType.long), 9, false),
  (⟨"ConditionDeskModel", "access", "(IJ)V"⟩, prog_11_method_34_code, 7, (Option.none : Option  FieldType), 9, false),
  (⟨"ConditionDeskModel", "fail", "(I)V"⟩, prog_11_method_28_code, 2, (Option.none : Option  FieldType), 9, false),
  (⟨"ConditionDeskModel", "both", "(IJJ)J"⟩, prog_11_method_35_code, 5, (Option.some  FieldType.long), 9, false),
  (⟨"ConditionDeskModel", "remember", "(I)V"⟩, prog_11_method_36_code, 4, (Option.none : Option  FieldType), 9, false),
  (⟨"ConditionDeskModel", "askAll", "()I"⟩, prog_11_method_40_code, 3, (Option.some  FieldType.int), 9, false),
  (⟨"ConditionDeskModel", "about", "(II)J"⟩, prog_11_method_41_code, 3, (Option.some  FieldType.long), 9, false),
  (⟨"ConditionDeskModel", "count", "(I)J"⟩, prog_11_method_42_code, 4, (Option.some  FieldType.long), 9, false)]
def tb_mt : List (MethodName × ByteArray × Nat × Option FieldType × Nat × Bool) := tb_mt0 ++ (tb_mt1 ++ (tb_mt2 ++ (tb_mt3 ++ (tb_mt4 ++ (tb_mt5 ++ (tb_mt6 ++ (tb_mt7 ++ (tb_mt8))))))))
def tb_m0 : MethodName × ByteArray × Nat × Option FieldType × Nat × Bool := (⟨"", "", ""⟩, ⟨#[]⟩, 0, none, 0, false)
def tb_my (k : Nat) : MethodName := (tb_mt.getD k tb_m0).1
def tb_mb (k : Nat) : ByteArray := (tb_mt.getD k tb_m0).2.1
def tb_mL (k : Nat) : Nat := (tb_mt.getD k tb_m0).2.2.1
def tb_mr (k : Nat) : Option FieldType := (tb_mt.getD k tb_m0).2.2.2.1
def tb_oc (k : Nat) : Nat := (tb_mt.getD k tb_m0).2.2.2.2.1
def tb_ini (k : Nat) : Option Nat := if (tb_mt.getD k tb_m0).2.2.2.2.2 = true then some (tb_oc k) else none
def tb_mok (k : Nat) : Bool := decide (k < tb_nM)
def tb_frL : List ((Nat × Nat) × (Nat × Nat × Bool) × Nat) := [((0, 12), (0, 2, false), 220), ((0, 23), (0, 3, false), 222), ((0, 27), (0, 4, false), 223), ((0, 30), (0, 5, false), 224), ((0, 33), (0, 6, false), 225), ((0, 37), (0, 0, false), 218), ((0, 46), (0, 1, false), 219), ((0, 56), (6, 3, true), 204), ((0, 63), (6, 1, true), 201), ((0, 72), (5, 1, true), 116), ((0, 89), (4, 5, true), 163), ((0, 95), (3, 1, true), 187), ((0, 123), (6, 4, true), 206), ((1, 7), (1, 1, false), 282), ((1, 13), (1, 2, false), 284), ((1, 17), (1, 3, false), 286), ((1, 21), (1, 4, false), 287), ((1, 24), (1, 5, false), 288), ((1, 27), (1, 6, false), 289), ((1, 35), (1, 0, false), 281), ((1, 47), (7, 5, true), 263), ((1, 49), (7, 6, true), 265), ((1, 52), (7, 1, true), 258), ((1, 56), (4, 5, true), 164), ((2, 9), (2, 0, false), 131), ((2, 15), (2, 1, false), 132), ((2, 18), (2, 2, false), 133), ((3, 7), (3, 1, false), 186), ((3, 13), (3, 0, false), 185), ((4, 9), (4, 0, false), 156), ((4, 15), (4, 1, false), 157), ((4, 18), (4, 2, false), 158), ((4, 21), (4, 3, false), 159), ((4, 25), (4, 4, false), 160), ((4, 29), (4, 5, false), 162), ((5, 9), (5, 0, false), 114), ((5, 15), (5, 1, false), 115), ((6, 9), (6, 1, false), 200), ((6, 15), (6, 2, false), 202), ((6, 18), (6, 3, false), 203), ((6, 21), (6, 4, false), 205), ((6, 25), (6, 0, false), 199), ((6, 38), (5, 1, true), 117), ((7, 12), (7, 1, false), 257), ((7, 18), (7, 2, false), 259), ((7, 22), (7, 3, false), 260), ((7, 25), (7, 4, false), 261), ((7, 29), (7, 5, false), 262), ((7, 33), (7, 6, false), 264), ((7, 36), (7, 0, false), 256), ((7, 44), (4, 4, true), 161), ((7, 81), (2, 2, true), 135), ((8, 10), (8, 0, false), 306), ((8, 19), (8, 1, false), 307), ((8, 28), (8, 2, false), 308), ((8, 34), (8, 3, false), 309), ((8, 41), (8, 4, false), 310), ((8, 67), (0, 2, true), 221), ((8, 75), (1, 1, true), 283), ((8, 85), (2, 2, true), 134), ((8, 100), (1, 2, true), 285), ((8, 107), (1, 6, true), 290), ((8, 116), (5, 1, true), 118), ((9, 7), (9, 2, false), 830), ((9, 13), (9, 3, false), 831), ((9, 17), (9, 4, false), 832), ((9, 20), (9, 6, false), 834), ((9, 24), (9, 7, false), 835), ((9, 27), (9, 8, false), 836), ((9, 30), (9, 9, false), 837), ((9, 33), (9, 10, false), 838), ((9, 36), (9, 11, false), 839), ((9, 39), (9, 12, false), 840), ((9, 42), (9, 13, false), 841), ((9, 46), (9, 14, false), 842), ((9, 49), (9, 15, false), 843), ((9, 52), (9, 16, false), 844), ((9, 55), (9, 17, false), 845), ((9, 58), (9, 18, false), 846), ((9, 61), (9, 19, false), 847), ((9, 64), (9, 28, false), 856), ((9, 67), (9, 29, false), 857), ((9, 70), (9, 30, false), 858), ((9, 73), (9, 31, false), 859), ((9, 76), (9, 36, false), 864), ((9, 79), (9, 37, false), 865), ((9, 82), (9, 38, false), 866), ((9, 85), (9, 39, false), 867), ((9, 88), (9, 40, false), 868), ((9, 91), (9, 0, false), 828), ((9, 95), (9, 1, false), 829), ((9, 102), (9, 21, false), 849), ((9, 109), (9, 23, false), 851), ((9, 121), (9, 22, false), 850), ((9, 124), (9, 27, false), 855), ((9, 154), (9, 26, false), 854), ((9, 157), (9, 24, false), 852), ((9, 160), (9, 25, false), 853), ((9, 198), (9, 5, false), 833), ((9, 206), (9, 32, false), 860), ((9, 209), (9, 35, false), 863), ((9, 212), (9, 34, false), 862), ((9, 228), (9, 33, false), 861), ((9, 264), (9, 20, false), 848)]
def tb_fr (o x : Nat) : Option (Nat × Nat × Bool) := (tb_frL.find? (fun q => q.1.1 == o && q.1.2 == x)).map (fun q => q.2.1)
def tb_crL : List ((Nat × Nat) × (Nat × Nat × Bool × Nat) × Nat) := [((0, 11), (2, 4, true, 0), 152), ((0, 20), (2, 5, true, 1), 181), ((0, 43), (2, 6, true, 1), 195), ((0, 50), (0, 42, false, 0), 528), ((0, 53), (0, 46, true, 0), 544), ((0, 59), (0, 62, false, 1), 660), ((0, 66), (0, 70, false, 1), 688), ((0, 69), (0, 76, false, 1), 711), ((0, 77), (0, 43, true, 0), 532), ((0, 78), (0, 44, true, 0), 536), ((0, 81), (0, 45, true, 0), 540), ((0, 82), (0, 63, false, 1), 664), ((0, 86), (1, 68, false, 1), 682), ((0, 92), (1, 69, false, 1), 685), ((0, 98), (1, 64, false, 1), 668), ((0, 101), (0, 65, false, 1), 671), ((0, 104), (0, 66, true, 0), 675), ((0, 108), (1, 67, true, 1), 679), ((0, 111), (0, 77, false, 1), 715), ((0, 114), (0, 78, false, 1), 719), ((0, 117), (0, 80, false, 1), 726), ((0, 120), (0, 75, true, 1), 707), ((0, 127), (0, 74, true, 4), 703), ((0, 131), (0, 73, true, 0), 699), ((0, 134), (1, 79, false, 1), 723), ((0, 137), (0, 72, false, 0), 695), ((0, 140), (1, 71, true, 1), 692), ((1, 32), (2, 8, true, 1), 250), ((1, 39), (0, 83, true, 1), 738), ((1, 43), (0, 14, true, 0), 342), ((2, 22), (0, 25, false, 1), 394), ((6, 29), (0, 47, false, 0), 548), ((6, 32), (0, 48, true, 1), 552), ((6, 41), (1, 49, false, 1), 556), ((6, 45), (0, 50, false, 0), 559), ((6, 48), (1, 53, false, 1), 573), ((6, 51), (0, 54, false, 0), 576), ((6, 54), (0, 58, false, 0), 647), ((6, 57), (1, 51, false, 1), 563), ((6, 69), (1, 52, false, 1), 570), ((6, 72), (0, 55, false, 0), 580), ((6, 76), (0, 57, false, 0), 638), ((6, 81), (0, 56, false, 1), 585), ((6, 104), (1, 59, false, 1), 651), ((6, 107), (1, 60, false, 1), 654), ((6, 110), (1, 61, false, 1), 657), ((7, 11), (2, 4, true, 0), 255), ((7, 40), (0, 84, true, 1), 742), ((7, 47), (0, 15, false, 2), 346), ((7, 51), (0, 36, false, 0), 429), ((7, 54), (0, 17, true, 1), 354), ((7, 58), (0, 21, true, 1), 370), ((7, 67), (0, 16, true, 1), 350), ((7, 71), (0, 18, true, 1), 358), ((7, 75), (0, 19, true, 1), 362), ((7, 85), (0, 20, false, 1), 366), ((7, 88), (0, 22, false, 2), 374), ((7, 91), (0, 24, false, 2), 381), ((7, 95), (1, 28, false, 2), 399), ((7, 98), (0, 29, false, 2), 403), ((7, 101), (0, 31, false, 2), 411), ((7, 104), (1, 23, false, 1), 378), ((7, 108), (0, 30, true, 1), 407), ((7, 111), (0, 32, false, 3), 415), ((7, 115), (1, 33, true, 1), 419), ((7, 118), (1, 34, false, 3), 422), ((7, 122), (1, 35, false, 3), 425), ((7, 127), (0, 25, true, 1), 386), ((7, 130), (0, 26, true, 1), 390), ((7, 133), (0, 27, true, 1), 395), ((8, 9), (2, 1, true, 0), 110), ((8, 18), (2, 2, true, 0), 127), ((8, 25), (2, 3, true, 1), 146), ((8, 38), (2, 7, true, 1), 244), ((8, 45), (0, 10, true, 1), 326), ((8, 49), (0, 40, false, 1), 453), ((8, 60), (0, 41, true, 0), 524), ((8, 64), (0, 81, true, 0), 730), ((8, 71), (0, 82, true, 1), 734), ((8, 81), (0, 87, true, 2), 762), ((8, 90), (0, 89, true, 2), 774), ((8, 104), (0, 13, true, 0), 338), ((8, 112), (0, 93, true, 1), 818), ((8, 119), (0, 38, false, 0), 440), ((9, 98), (1, 104, false, 1), 988), ((9, 105), (0, 101, false, 1), 977), ((9, 112), (1, 103, false, 1), 985), ((9, 115), (0, 105, false, 0), 991), ((9, 118), (0, 106, false, 0), 998), ((9, 138), (0, 107, false, 3), 1004), ((9, 163), (0, 112, false, 0), 1028), ((9, 166), (0, 102, false, 0), 981), ((9, 169), (1, 108, false, 1), 1014), ((9, 172), (1, 109, false, 1), 1017), ((9, 175), (0, 110, false, 2), 1020), ((9, 179), (0, 111, false, 0), 1024), ((9, 184), (1, 98, false, 3), 966), ((9, 188), (0, 99, false, 2), 969), ((9, 192), (0, 100, false, 0), 973), ((9, 203), (1, 124, false, 1), 1079), ((9, 215), (0, 121, false, 2), 1067), ((9, 218), (0, 122, false, 2), 1071), ((9, 221), (0, 126, false, 1), 1086), ((9, 225), (0, 127, false, 2), 1090), ((9, 231), (0, 123, false, 2), 1075), ((9, 235), (0, 125, false, 1), 1082), ((9, 239), (1, 128, false, 1), 1094), ((9, 245), (0, 129, false, 2), 1098), ((9, 249), (0, 130, false, 1), 1102), ((9, 252), (1, 131, false, 3), 1106), ((9, 258), (0, 120, false, 3), 1063), ((9, 267), (0, 132, false, 1), 1110), ((9, 270), (0, 119, false, 1), 1059), ((10, 7), (0, 39, false, 1), 449), ((10, 15), (0, 85, false, 1), 750), ((10, 19), (0, 86, false, 2), 757), ((10, 23), (0, 88, false, 2), 769), ((10, 26), (0, 90, false, 2), 782), ((10, 32), (0, 91, false, 1), 806), ((10, 35), (0, 92, false, 2), 813), ((10, 39), (2, 0, false, 0), 102), ((10, 42), (2, 94, false, 0), 824), ((10, 43), (0, 9, false, 1), 322), ((10, 47), (0, 96, false, 1), 957), ((10, 53), (0, 97, false, 1), 961), ((10, 54), (0, 95, false, 0), 953), ((10, 60), (0, 113, false, 1), 1032), ((10, 64), (0, 114, false, 2), 1036), ((10, 67), (0, 11, false, 1), 330), ((10, 71), (0, 115, false, 1), 1041), ((10, 74), (0, 116, false, 2), 1045), ((10, 78), (0, 117, false, 2), 1050), ((10, 81), (0, 118, false, 1), 1055), ((10, 82), (0, 12, false, 0), 334), ((10, 85), (0, 133, false, 0), 1114), ((10, 88), (0, 134, false, 2), 1118), ((10, 89), (0, 37, false, 1), 436), ((10, 93), (0, 135, false, 1), 1123)]
def tb_cr (o x : Nat) : Option (Nat × Nat × Bool × Nat) := (tb_crL.find? (fun q => q.1.1 == o && q.1.2 == x)).map (fun q => q.2.1)
def tb_nrL : List ((Nat × Nat) × Nat × Nat) := [((8, 7), 5, 108), ((8, 16), 2, 125), ((8, 23), 0, 144), ((8, 32), 1, 241), ((0, 9), 4, 150), ((0, 18), 3, 179), ((0, 41), 6, 193), ((1, 30), 7, 248), ((7, 9), 4, 254), ((10, 8), 8, 100), ((10, 40), 9, 822)]
def tb_nr (o x : Nat) : Option Nat := (tb_nrL.find? (fun q => q.1.1 == o && q.1.2 == x)).map (fun q => q.2.1)
def tb_qrL : List ((Nat × Nat) × Nat) := [((8, 32), 241)]
def tb_qr (o x : Nat) : Option Nat := (tb_qrL.find? (fun q => q.1.1 == o && q.1.2 == x)).map (fun _ => 4)
def tb_clI : List (List Nat) := [[226, 228, 230, 232, 234, 236, 238], [291, 293, 295, 297, 299, 301, 303], [136, 138, 140], [188, 190], [165, 167, 169, 171, 173, 175], [119, 121], [207, 209, 211, 213, 215], [266, 268, 270, 272, 274, 276, 278], [311, 313, 315, 317, 319], [869, 871, 873, 875, 877, 879, 881, 883, 885, 887, 889, 891, 893, 895, 897, 899, 901, 903, 905, 907, 909, 911, 913, 915, 917, 919, 921, 923, 925, 927, 929, 931, 933, 935, 937, 939, 941, 943, 945, 947, 949]]
def tb_cnI : List (Nat × Nat) := [(145, 82), (243, 86), (126, 81), (180, 84), (151, 83), (109, 80), (194, 85), (249, 87), (101, 79), (823, 88)]
/-- a method's words: its code, its class is initialised, static or instance, selects -/
def tb_mI : List (Nat × Nat × Nat × Nat) := [(104, 79, 103, 0), (112, 80, 111, 0), (129, 81, 128, 0), (148, 82, 147, 0), (154, 83, 153, 0), (183, 84, 182, 0), (197, 85, 196, 0), (246, 86, 245, 0), (252, 87, 251, 0), (325, 79, 323, 324), (329, 80, 328, 0), (333, 79, 331, 332), (337, 79, 335, 336), (341, 86, 340, 1), (345, 87, 344, 2), (349, 87, 348, 3), (353, 83, 352, 4), (357, 83, 356, 5), (361, 83, 360, 6), (365, 81, 364, 7), (369, 87, 368, 8), (373, 83, 372, 9), (377, 87, 376, 10), (380, 87, 379, 0), (384, 87, 383, 11), (389, 81, 388, 12), (393, 81, 392, 13), (398, 81, 397, 14), (401, 87, 400, 0), (406, 87, 405, 15), (410, 83, 409, 16), (414, 87, 413, 17), (418, 87, 417, 18), (421, 79, 420, 0), (424, 87, 423, 0), (427, 87, 426, 0), (432, 87, 431, 19), (439, 79, 437, 438), (443, 79, 442, 20), (452, 79, 450, 451), (456, 79, 455, 21), (527, 82, 526, 23), (531, 82, 530, 24), (535, 85, 534, 25), (539, 83, 538, 26), (543, 84, 542, 27), (547, 85, 546, 28), (551, 85, 550, 29), (555, 80, 554, 30), (558, 85, 557, 0), (562, 85, 561, 31), (565, 85, 564, 0), (572, 85, 571, 0), (575, 85, 574, 0), (579, 85, 578, 32), (583, 85, 582, 33), (588, 85, 587, 34), (641, 85, 640, 35), (650, 85, 649, 36), (653, 85, 652, 0), (656, 85, 655, 0), (659, 85, 658, 0), (663, 82, 662, 37), (667, 82, 666, 38), (670, 82, 669, 0), (674, 82, 673, 39), (678, 84, 677, 40), (681, 79, 680, 0), (684, 82, 683, 0), (687, 82, 686, 0), (691, 82, 690, 41), (694, 79, 693, 0), (698, 82, 697, 42), (702, 84, 701, 43), (706, 83, 705, 44), (710, 84, 709, 45), (714, 82, 713, 46), (718, 82, 717, 47), (722, 82, 721, 48), (725, 82, 724, 0), (729, 82, 728, 49), (733, 80, 732, 50), (737, 86, 736, 51), (741, 87, 740, 52), (745, 83, 744, 53), (753, 79, 751, 752), (760, 79, 758, 759), (765, 81, 764, 54), (772, 79, 770, 771), (777, 81, 776, 55), (785, 79, 783, 784), (809, 79, 807, 808), (816, 79, 814, 815), (821, 86, 820, 56), (826, 88, 825, 0), (956, 88, 954, 955), (960, 88, 958, 959), (964, 88, 962, 963), (968, 88, 967, 0), (972, 88, 971, 57), (976, 88, 975, 58), (980, 88, 979, 59), (984, 88, 983, 60), (987, 88, 986, 0), (990, 88, 989, 0), (994, 88, 993, 61), (1001, 88, 1000, 62), (1007, 88, 1006, 63), (1016, 88, 1015, 0), (1019, 88, 1018, 0), (1023, 88, 1022, 64), (1027, 88, 1026, 65), (1031, 88, 1030, 66), (1035, 88, 1033, 1034), (1039, 88, 1037, 1038), (1044, 88, 1042, 1043), (1048, 88, 1046, 1047), (1053, 88, 1051, 1052), (1058, 88, 1056, 1057), (1062, 88, 1061, 67), (1066, 88, 1065, 68), (1070, 88, 1069, 69), (1074, 88, 1073, 70), (1078, 88, 1077, 71), (1081, 88, 1080, 0), (1085, 88, 1084, 72), (1089, 88, 1088, 73), (1093, 88, 1092, 74), (1096, 88, 1095, 0), (1101, 88, 1100, 75), (1105, 88, 1104, 76), (1108, 88, 1107, 0), (1113, 88, 1112, 77), (1117, 88, 1115, 1116), (1121, 88, 1119, 1120), (1126, 88, 1124, 1125)]
