/-! names: the classes, their fields, the methods, and what the constant pools name; written by wip/whole/gen/names.py out of the printed names -/
def TX0 : u_T := fun k => match k with
  | 0 => ("OnePen$Day", "minute", "I", false)
  | 1 => ("OnePen$Day", "place", "I", false)
  | 2 => ("OnePen$Day", "ink", "I", false)
  | 3 => ("OnePen$Day", "nib", "I", false)
  | 4 => ("OnePen$Day", "signed", "I", false)
  | 5 => ("OnePen$Day", "voided", "I", false)
  | 6 => ("OnePen$Day", "blanked", "I", false)
  | _ => ("OnePen$Day", "ends", "[I", true)
def tyX0 : Nat → FieldType := fun k => match k with
  | 0 => .int
  | 1 => .int
  | 2 => .int
  | 3 => .int
  | 4 => .int
  | 5 => .int
  | 6 => .int
  | _ => .array .int
def TX1 : u_T := fun k => match k with
  | 0 => ("OnePen$Desk", "office", "LOnePen$Office;", true)
  | 1 => ("OnePen$Desk", "day", "LOnePen$Day;", true)
  | 2 => ("OnePen$Desk", "logs", "LOnePen$Logs;", true)
  | _ => ("OnePen$Desk", "x", "I", false)
def tyX1 : Nat → FieldType := fun k => match k with
  | 0 => .object "OnePen$Office"
  | 1 => .object "OnePen$Day"
  | 2 => .object "OnePen$Logs"
  | _ => .int
def TX2 : u_T := fun k => match k with
  | 0 => ("OnePen$History", "days", "[LOnePen$Day;", true)
  | 1 => ("OnePen$History", "top", "I", false)
  | _ => ("OnePen$History", "size", "I", false)
def tyX2 : Nat → FieldType := fun k => match k with
  | 0 => .array (.object "OnePen$Day")
  | 1 => .int
  | _ => .int
def TX3 : u_T := fun k => match k with
  | 0 => ("OnePen$Logs", "size", "I", false)
  | 1 => ("OnePen$Logs", "kinds", "[I", true)
  | 2 => ("OnePen$Logs", "ones", "[I", true)
  | _ => ("OnePen$Logs", "others", "[I", true)
def tyX3 : Nat → FieldType := fun k => match k with
  | 0 => .int
  | 1 => .array .int
  | 2 => .array .int
  | _ => .array .int
def TX4 : u_T := fun k => match k with
  | 0 => ("OnePen$Office", "isTold", "Z", false)
  | 1 => ("OnePen$Office", "ink", "I", false)
  | 2 => ("OnePen$Office", "nib", "I", false)
  | 3 => ("OnePen$Office", "fill", "I", false)
  | 4 => ("OnePen$Office", "clerks", "I", false)
  | 5 => ("OnePen$Office", "aways", "I", false)
  | 6 => ("OnePen$Office", "papers", "I", false)
  | 7 => ("OnePen$Office", "seat", "[I", true)
  | 8 => ("OnePen$Office", "awayWho", "[I", true)
  | 9 => ("OnePen$Office", "awayFirst", "[I", true)
  | 10 => ("OnePen$Office", "awayLast", "[I", true)
  | 11 => ("OnePen$Office", "owner", "[I", true)
  | 12 => ("OnePen$Office", "strokes", "[I", true)
  | 13 => ("OnePen$Office", "due", "[I", true)
  | 14 => ("OnePen$Office", "worth", "[I", true)
  | _ => ("OnePen$Office", "rests", "[I", true)
def tyX4 : Nat → FieldType := fun k => match k with
  | 0 => .boolean
  | 1 => .int
  | 2 => .int
  | 3 => .int
  | 4 => .int
  | 5 => .int
  | 6 => .int
  | 7 => .array .int
  | 8 => .array .int
  | 9 => .array .int
  | 10 => .array .int
  | 11 => .array .int
  | 12 => .array .int
  | 13 => .array .int
  | 14 => .array .int
  | _ => .array .int
def TX5 : u_T := fun k => match k with
  | 0 => ("OnePen$Orders", "total", "I", false)
  | 1 => ("OnePen$Orders", "first", "[I", true)
  | 2 => ("OnePen$Orders", "tally", "[I", true)
  | _ => ("OnePen$Orders", "row", "[I", true)
def tyX5 : Nat → FieldType := fun k => match k with
  | 0 => .int
  | 1 => .array .int
  | 2 => .array .int
  | _ => .array .int
def TX6 : u_T := fun k => match k with
  | 0 => ("OnePen$Planner", "bestWorth", "I", false)
  | 1 => ("OnePen$Planner", "bestMinute", "I", false)
  | 2 => ("OnePen$Planner", "bestSize", "I", false)
  | 3 => ("OnePen$Planner", "bestRow", "[I", true)
  | 4 => ("OnePen$Planner", "pool", "I", false)
  | 5 => ("OnePen$Planner", "asked", "I", false)
  | 6 => ("OnePen$Planner", "row", "[I", true)
  | 7 => ("OnePen$Planner", "days", "[LOnePen$Day;", true)
  | _ => ("OnePen$Planner", "mostInTime", "I", false)
def tyX6 : Nat → FieldType := fun k => match k with
  | 0 => .int
  | 1 => .int
  | 2 => .int
  | 3 => .array .int
  | 4 => .int
  | 5 => .int
  | 6 => .array .int
  | 7 => .array (.object "OnePen$Day")
  | _ => .int
def TX7 : u_T := fun k => match k with
  | 0 => ("OnePen$Rule", "steps", "[I", true)
  | 1 => ("OnePen$Rule", "operands", "[I", true)
  | 2 => ("OnePen$Rule", "size", "I", false)
  | _ => ("OnePen$Rule", "stack", "[J", true)
def tyX7 : Nat → FieldType := fun k => match k with
  | 0 => .array .int
  | 1 => .array .int
  | 2 => .int
  | _ => .array .long
def TX8 : u_T := fun k => match k with
  | 0 => ("OnePen$RuleReader", "draft", "LOnePen$Rule;", true)
  | _ => ("OnePen$RuleReader", "parts", "I", false)
def tyX8 : Nat → FieldType := fun k => match k with
  | 0 => .object "OnePen$Rule"
  | _ => .int
def TX9 : u_T := fun k => match k with
  | 0 => ("OnePen$RuleRun", "day", "LOnePen$Day;", true)
  | 1 => ("OnePen$RuleRun", "row", "[I", true)
  | 2 => ("OnePen$RuleRun", "size", "I", false)
  | _ => ("OnePen$RuleRun", "words", "[J", true)
def tyX9 : Nat → FieldType := fun k => match k with
  | 0 => .object "OnePen$Day"
  | 1 => .array .int
  | 2 => .int
  | _ => .array .long
def TX10 : u_T := fun k => match k with
  | 0 => ("OnePen$Text", "kinds", "[I", true)
  | 1 => ("OnePen$Text", "values", "[I", true)
  | 2 => ("OnePen$Text", "places", "[I", true)
  | 3 => ("OnePen$Text", "size", "I", false)
  | 4 => ("OnePen$Text", "next", "I", false)
  | _ => ("OnePen$Text", "fault", "I", false)
def tyX10 : Nat → FieldType := fun k => match k with
  | 0 => .array .int
  | 1 => .array .int
  | 2 => .array .int
  | 3 => .int
  | 4 => .int
  | _ => .int
def TX11 : u_T := fun k => match k with
  | 0 => ("OnePen", "tape", "[I", true)
  | 1 => ("OnePen", "taped", "I", false)
  | 2 => ("OnePen", "text", "LOnePen$Text;", true)
  | 3 => ("OnePen", "draft", "LOnePen$Office;", true)
  | 4 => ("OnePen", "ruleReader", "LOnePen$RuleReader;", true)
  | 5 => ("OnePen", "rules", "[LOnePen$Rule;", true)
  | 6 => ("OnePen", "ruleCount", "I", false)
  | 7 => ("OnePen", "desk", "LOnePen$Desk;", true)
  | 8 => ("OnePen", "images", "[LOnePen$Desk;", true)
  | 9 => ("OnePen", "imageMade", "[Z", true)
  | 10 => ("OnePen", "history", "LOnePen$History;", true)
  | 11 => ("OnePen", "trial", "LOnePen$Day;", true)
  | 12 => ("OnePen", "ruleRun", "LOnePen$RuleRun;", true)
  | 13 => ("OnePen", "planner", "LOnePen$Planner;", true)
  | _ => ("OnePen", "dayOrders", "LOnePen$Orders;", true)
def tyX11 : Nat → FieldType := fun k => match k with
  | 0 => .array .int
  | 1 => .int
  | 2 => .object "OnePen$Text"
  | 3 => .object "OnePen$Office"
  | 4 => .object "OnePen$RuleReader"
  | 5 => .array (.object "OnePen$Rule")
  | 6 => .int
  | 7 => .object "OnePen$Desk"
  | 8 => .array (.object "OnePen$Desk")
  | 9 => .array .boolean
  | 10 => .object "OnePen$History"
  | 11 => .object "OnePen$Day"
  | 12 => .object "OnePen$RuleRun"
  | 13 => .object "OnePen$Planner"
  | _ => .object "OnePen$Orders"
def TX12 : u_T := fun k => match k with
  | 0 => ("OnePenModel", "tape", "[B", true)
  | 1 => ("OnePenModel", "taped", "I", false)
  | 2 => ("OnePenModel", "rules", "I", false)
  | 3 => ("OnePenModel", "sign", "[I", true)
  | 4 => ("OnePenModel", "length", "[I", true)
  | 5 => ("OnePenModel", "clause", "[I", true)
  | 6 => ("OnePenModel", "clauses", "[I", true)
  | 7 => ("OnePenModel", "read", "[I", true)
  | 8 => ("OnePenModel", "next", "I", false)
  | 9 => ("OnePenModel", "wrong", "I", false)
  | 10 => ("OnePenModel", "number", "I", false)
  | 11 => ("OnePenModel", "text", "I", false)
  | 12 => ("OnePenModel", "made", "I", false)
  | 13 => ("OnePenModel", "deep", "I", false)
  | 14 => ("OnePenModel", "lines", "I", false)
  | 15 => ("OnePenModel", "open", "[I", true)
  | 16 => ("OnePenModel", "opened", "I", false)
  | 17 => ("OnePenModel", "stack", "[J", true)
  | 18 => ("OnePenModel", "top", "I", false)
  | 19 => ("OnePenModel", "word", "[J", true)
  | 20 => ("OnePenModel", "said", "[I", true)
  | 21 => ("OnePenModel", "x", "I", false)
  | 22 => ("OnePenModel", "asked", "I", false)
  | 23 => ("OnePenModel", "begins", "I", false)
  | 24 => ("OnePenModel", "inkLeft", "I", false)
  | 25 => ("OnePenModel", "nibLeft", "I", false)
  | 26 => ("OnePenModel", "isCrossed", "Z", false)
  | 27 => ("OnePenModel", "wasSaid", "[I", true)
  | 28 => ("OnePenModel", "undone", "I", false)
  | 29 => ("OnePenModel", "kept", "[I", true)
  | 30 => ("OnePenModel", "byRow", "[I", true)
  | 31 => ("OnePenModel", "byMany", "I", false)
  | 32 => ("OnePenModel", "rowPaper", "[I", true)
  | 33 => ("OnePenModel", "rowState", "[I", true)
  | 34 => ("OnePenModel", "bestRow", "[I", true)
  | 35 => ("OnePenModel", "bestMany", "I", false)
  | 36 => ("OnePenModel", "bestWorth", "I", false)
  | 37 => ("OnePenModel", "bestMinute", "I", false)
  | 38 => ("OnePenModel", "leastLost", "I", false)
  | 39 => ("OnePenModel", "reach", "[I", true)
  | 40 => ("OnePenModel", "orderMany", "I", false)
  | 41 => ("OnePenModel", "orderFirst", "[I", true)
  | 42 => ("OnePenModel", "orderOf", "[I", true)
  | 43 => ("OnePenModel", "drawX", "J", false)
  | 44 => ("OnePenModel", "images", "[I", true)
  | 45 => ("OnePenModel", "imageX", "[I", true)
  | _ => ("OnePenModel", "isMade", "[Z", true)
def tyX12 : Nat → FieldType := fun k => match k with
  | 0 => .array .byte
  | 1 => .int
  | 2 => .int
  | 3 => .array .int
  | 4 => .array .int
  | 5 => .array .int
  | 6 => .array .int
  | 7 => .array .int
  | 8 => .int
  | 9 => .int
  | 10 => .int
  | 11 => .int
  | 12 => .int
  | 13 => .int
  | 14 => .int
  | 15 => .array .int
  | 16 => .int
  | 17 => .array .long
  | 18 => .int
  | 19 => .array .long
  | 20 => .array .int
  | 21 => .int
  | 22 => .int
  | 23 => .int
  | 24 => .int
  | 25 => .int
  | 26 => .boolean
  | 27 => .array .int
  | 28 => .int
  | 29 => .array .int
  | 30 => .array .int
  | 31 => .int
  | 32 => .array .int
  | 33 => .array .int
  | 34 => .array .int
  | 35 => .int
  | 36 => .int
  | 37 => .int
  | 38 => .int
  | 39 => .array .int
  | 40 => .int
  | 41 => .array .int
  | 42 => .array .int
  | 43 => .long
  | 44 => .array .int
  | 45 => .array .int
  | _ => .array .boolean
def xk_RN : List String := ["OnePen$Day", "OnePen$Desk", "OnePen$History", "OnePen$Logs", "OnePen$Office", "OnePen$Orders", "OnePen$Planner", "OnePen$Rule", "OnePen$RuleReader", "OnePen$RuleRun", "OnePen$Text", "OnePen", "OnePenModel", "java/lang/Integer", "OnePenLaw"]
def xk_cl : List vw_C := [("OnePen$Day", TX0, 8), ("OnePen$Desk", TX1, 4), ("OnePen$History", TX2, 3), ("OnePen$Logs", TX3, 4), ("OnePen$Office", TX4, 16), ("OnePen$Orders", TX5, 4), ("OnePen$Planner", TX6, 9), ("OnePen$Rule", TX7, 4), ("OnePen$RuleReader", TX8, 2), ("OnePen$RuleRun", TX9, 4), ("OnePen$Text", TX10, 6), ("OnePen", TX11, 15), ("OnePenModel", TX12, 47)]
def xk_tyL : List (Nat → FieldType) := [tyX0, tyX1, tyX2, tyX3, tyX4, tyX5, tyX6, tyX7, tyX8, tyX9, tyX10, tyX11, tyX12]
/-- a method: its class (place in xk_RN), name, code, locals, answer, static, parameters; places of its words -/
abbrev xk_MI : Type := Nat × MethodName × ByteArray × Nat × Option FieldType × Bool × Nat
def xk_mt0 : List xk_MI := [(0, ⟨"OnePen$Day", "<init>", "()V"⟩, prog_2_method_1_code, 1, none, false, 0),
  (0, ⟨"OnePen$Day", "copyFrom", "(LOnePen$Day;)V"⟩, prog_2_method_2_code, 2, none, false, 1),
  (0, ⟨"OnePen$Day", "open", "(LOnePen$Office;)V"⟩, prog_2_method_3_code, 2, none, false, 1),
  (0, ⟨"OnePen$Day", "takeNewPen", "(LOnePen$Office;I)V"⟩, prog_2_method_4_code, 3, none, false, 2),
  (0, ⟨"OnePen$Day", "unsigned", "(LOnePen$Office;)I"⟩, prog_2_method_5_code, 2, (some .int), false, 1),
  (0, ⟨"OnePen$Day", "inTime", "(LOnePen$Office;I)Z"⟩, prog_2_method_6_code, 3, (some .boolean), false, 2),
  (0, ⟨"OnePen$Day", "worthInTime", "(LOnePen$Office;)I"⟩, prog_2_method_7_code, 4, (some .int), false, 1),
  (0, ⟨"OnePen$Day", "fillingsFor", "(LOnePen$Office;I)I"⟩, prog_2_method_8_code, 3, (some .int), false, 2),
  (0, ⟨"OnePen$Day", "beginOf", "(LOnePen$Office;I)I"⟩, prog_2_method_9_code, 6, (some .int), false, 2),
  (0, ⟨"OnePen$Day", "canWrite", "(LOnePen$Office;I)Z"⟩, prog_2_method_10_code, 3, (some .boolean), false, 2),
  (0, ⟨"OnePen$Day", "write", "(LOnePen$Office;II)I"⟩, prog_2_method_11_code, 6, (some .int), false, 3),
  (0, ⟨"OnePen$Day", "restsOnNothing", "(LOnePen$Office;II)Z"⟩, prog_2_method_12_code, 5, (some .boolean), false, 3),
  (1, ⟨"OnePen$Desk", "<init>", "()V"⟩, prog_3_method_1_code, 1, none, false, 0),
  (1, ⟨"OnePen$Desk", "copyFrom", "(LOnePen$Desk;)V"⟩, prog_3_method_2_code, 2, none, false, 1),
  (2, ⟨"OnePen$History", "<init>", "()V"⟩, prog_4_method_1_code, 2, none, false, 0),
  (2, ⟨"OnePen$History", "clear", "()V"⟩, prog_4_method_2_code, 1, none, false, 0),
  (2, ⟨"OnePen$History", "push", "(LOnePen$Day;)V"⟩, prog_4_method_3_code, 2, none, false, 1),
  (2, ⟨"OnePen$History", "pop", "(LOnePen$Day;)Z"⟩, prog_4_method_4_code, 3, (some .boolean), false, 1),
  (3, ⟨"OnePen$Logs", "<init>", "()V"⟩, prog_5_method_1_code, 1, none, false, 0),
  (3, ⟨"OnePen$Logs", "copyFrom", "(LOnePen$Logs;)V"⟩, prog_5_method_2_code, 2, none, false, 1),
  (3, ⟨"OnePen$Logs", "clear", "()V"⟩, prog_5_method_3_code, 1, none, false, 0),
  (3, ⟨"OnePen$Logs", "mayBeTold", "(IIILOnePen$Office;)Z"⟩, prog_5_method_4_code, 5, (some .boolean), false, 4),
  (3, ⟨"OnePen$Logs", "add", "(III)Z"⟩, prog_5_method_5_code, 4, (some .boolean), false, 3),
  (3, ⟨"OnePen$Logs", "allSo", "(LOnePen$Office;[I)Z"⟩, prog_5_method_6_code, 4, (some .boolean), false, 2),
  (3, ⟨"OnePen$Logs", "isSo", "(ILOnePen$Office;[I)Z"⟩, prog_5_method_7_code, 5, (some .boolean), false, 3),
  (3, ⟨"OnePen$Logs", "placeOf", "(ILOnePen$Office;[I)I"⟩, prog_5_method_8_code, 4, (some .int), true, 3),
  (3, ⟨"OnePen$Logs", "strokesAhead", "(ILOnePen$Office;[I)I"⟩, prog_5_method_9_code, 5, (some .int), true, 3),
  (4, ⟨"OnePen$Office", "<init>", "()V"⟩, prog_6_method_1_code, 1, none, false, 0),
  (4, ⟨"OnePen$Office", "copyFrom", "(LOnePen$Office;)V"⟩, prog_6_method_2_code, 2, none, false, 1),
  (4, ⟨"OnePen$Office", "readFrom", "(LOnePen$Text;)V"⟩, prog_6_method_3_code, 3, none, false, 1)]
def xk_mt1 : List xk_MI := [(4, ⟨"OnePen$Office", "readClause", "(LOnePen$Text;I)V"⟩, prog_6_method_4_code, 4, none, false, 2),
  (4, ⟨"OnePen$Office", "isFull", "(I)Z"⟩, prog_6_method_5_code, 2, (some .boolean), false, 1),
  (4, ⟨"OnePen$Office", "readPen", "(LOnePen$Text;)V"⟩, prog_6_method_6_code, 2, none, false, 1),
  (4, ⟨"OnePen$Office", "readClerk", "(LOnePen$Text;)V"⟩, prog_6_method_7_code, 3, none, false, 1),
  (4, ⟨"OnePen$Office", "readAway", "(LOnePen$Text;)V"⟩, prog_6_method_8_code, 5, none, false, 1),
  (4, ⟨"OnePen$Office", "readPaper", "(LOnePen$Text;)V"⟩, prog_6_method_9_code, 6, none, false, 1),
  (4, ⟨"OnePen$Office", "readRests", "(LOnePen$Text;)V"⟩, prog_6_method_10_code, 4, none, false, 1),
  (4, ⟨"OnePen$Office", "hasClerk", "(I)Z"⟩, prog_6_method_11_code, 2, (some .boolean), false, 1),
  (4, ⟨"OnePen$Office", "hasPaper", "(I)Z"⟩, prog_6_method_12_code, 2, (some .boolean), false, 1),
  (4, ⟨"OnePen$Office", "wayBetween", "(II)I"⟩, prog_6_method_13_code, 3, (some .int), false, 2),
  (4, ⟨"OnePen$Office", "papersOf", "(I)I"⟩, prog_6_method_14_code, 4, (some .int), false, 1),
  (4, ⟨"OnePen$Office", "restingOn", "(II)I"⟩, prog_6_method_15_code, 5, (some .int), false, 2),
  (4, ⟨"OnePen$Office", "isAway", "(II)Z"⟩, prog_6_method_16_code, 3, (some .boolean), false, 2),
  (4, ⟨"OnePen$Office", "freeFrom", "(III)I"⟩, prog_6_method_17_code, 8, (some .int), false, 3),
  (4, ⟨"OnePen$Office", "ringsWithin", "(I)I"⟩, prog_6_method_18_code, 4, (some .int), false, 1),
  (4, ⟨"OnePen$Office", "reachedFrom", "(II)I"⟩, prog_6_method_19_code, 6, (some .int), false, 2),
  (5, ⟨"OnePen$Orders", "<init>", "()V"⟩, prog_7_method_1_code, 1, none, false, 0),
  (5, ⟨"OnePen$Orders", "find", "(LOnePen$Office;LOnePen$Logs;)V"⟩, prog_7_method_2_code, 3, none, false, 2),
  (5, ⟨"OnePen$Orders", "seek", "(LOnePen$Orders;LOnePen$Office;LOnePen$Logs;II)V"⟩, prog_7_method_3_code, 6, none, true, 5),
  (5, ⟨"OnePen$Orders", "weigh", "(LOnePen$Office;LOnePen$Logs;)V"⟩, prog_7_method_4_code, 4, none, false, 2),
  (5, ⟨"OnePen$Orders", "papersAt", "(I)I"⟩, prog_7_method_5_code, 4, (some .int), false, 1),
  (5, ⟨"OnePen$Orders", "mostAlikeAt", "(I)I"⟩, prog_7_method_6_code, 4, (some .int), false, 1),
  (6, ⟨"OnePen$Planner", "<init>", "()V"⟩, prog_8_method_1_code, 2, none, false, 0),
  (6, ⟨"OnePen$Planner", "search", "(LOnePen$Office;LOnePen$Day;II)I"⟩, prog_8_method_2_code, 5, (some .int), false, 4),
  (6, ⟨"OnePen$Planner", "seek", "(LOnePen$Planner;LOnePen$Office;I)V"⟩, prog_8_method_3_code, 6, none, true, 3),
  (6, ⟨"OnePen$Planner", "weigh", "(LOnePen$Office;LOnePen$Day;I)V"⟩, prog_8_method_4_code, 5, none, false, 3),
  (6, ⟨"OnePen$Planner", "bestPapers", "()I"⟩, prog_8_method_5_code, 3, (some .int), false, 0),
  (6, ⟨"OnePen$Planner", "leastLate", "(LOnePen$Office;LOnePen$Day;)I"⟩, prog_8_method_6_code, 6, (some .int), false, 2),
  (6, ⟨"OnePen$Planner", "seekAll", "(LOnePen$Planner;LOnePen$Office;I)V"⟩, prog_8_method_7_code, 6, none, true, 3),
  (7, ⟨"OnePen$Rule", "<init>", "()V"⟩, prog_9_method_1_code, 1, none, false, 0)]
def xk_mt2 : List xk_MI := [(7, ⟨"OnePen$Rule", "copyFrom", "(LOnePen$Rule;)V"⟩, prog_9_method_2_code, 2, none, false, 1),
  (7, ⟨"OnePen$Rule", "clear", "()V"⟩, prog_9_method_3_code, 1, none, false, 0),
  (7, ⟨"OnePen$Rule", "add", "(II)V"⟩, prog_9_method_4_code, 3, none, false, 2),
  (7, ⟨"OnePen$Rule", "valueFor", "([J)J"⟩, prog_9_method_5_code, 5, (some .long), false, 1),
  (7, ⟨"OnePen$Rule", "wordOf", "([JI)J"⟩, prog_9_method_6_code, 2, (some .long), true, 2),
  (7, ⟨"OnePen$Rule", "onStack", "(I)J"⟩, prog_9_method_7_code, 2, (some .long), false, 1),
  (7, ⟨"OnePen$Rule", "flip", "(I)V"⟩, prog_9_method_8_code, 2, none, false, 1),
  (7, ⟨"OnePen$Rule", "joined", "(IJJ)J"⟩, prog_9_method_9_code, 5, (some .long), true, 3),
  (7, ⟨"OnePen$Rule", "holds", "(IJJ)Z"⟩, prog_9_method_10_code, 5, (some .boolean), true, 3),
  (8, ⟨"OnePen$RuleReader", "<init>", "()V"⟩, prog_10_method_1_code, 1, none, false, 0),
  (8, ⟨"OnePen$RuleReader", "read", "(LOnePen$Text;)V"⟩, prog_10_method_2_code, 4, none, false, 1),
  (8, ⟨"OnePen$RuleReader", "readTest", "(LOnePen$Text;I)V"⟩, prog_10_method_3_code, 6, none, false, 2),
  (8, ⟨"OnePen$RuleReader", "readFact", "(LOnePen$Text;I)V"⟩, prog_10_method_4_code, 4, none, false, 2),
  (8, ⟨"OnePen$RuleReader", "readNested", "(LOnePen$Text;I)V"⟩, prog_10_method_5_code, 4, none, false, 2),
  (8, ⟨"OnePen$RuleReader", "signNext", "(LOnePen$Text;)I"⟩, prog_10_method_6_code, 2, (some .int), false, 1),
  (8, ⟨"OnePen$RuleReader", "readSum", "(LOnePen$Text;)V"⟩, prog_10_method_7_code, 6, none, false, 1),
  (8, ⟨"OnePen$RuleReader", "operatorNext", "(LOnePen$Text;)I"⟩, prog_10_method_8_code, 2, (some .int), false, 1),
  (8, ⟨"OnePen$RuleReader", "readValue", "(LOnePen$Text;)V"⟩, prog_10_method_9_code, 5, none, false, 1),
  (9, ⟨"OnePen$RuleRun", "<init>", "()V"⟩, prog_11_method_1_code, 1, none, false, 0),
  (9, ⟨"OnePen$RuleRun", "run", "(LOnePen$Office;LOnePen$Day;LOnePen$Rule;)V"⟩, prog_11_method_2_code, 6, none, false, 3),
  (9, ⟨"OnePen$RuleRun", "choose", "(LOnePen$Office;LOnePen$Rule;)I"⟩, prog_11_method_3_code, 9, (some .int), false, 2),
  (9, ⟨"OnePen$RuleRun", "wordOf", "(LOnePen$Office;II)I"⟩, prog_11_method_4_code, 5, (some .int), false, 3),
  (9, ⟨"OnePen$RuleRun", "waitOf", "(LOnePen$Office;II)I"⟩, prog_11_method_5_code, 8, (some .int), false, 3),
  (10, ⟨"OnePen$Text", "<init>", "()V"⟩, prog_12_method_1_code, 1, none, false, 0),
  (10, ⟨"OnePen$Text", "cut", "([II)V"⟩, prog_12_method_2_code, 5, none, false, 2),
  (10, ⟨"OnePen$Text", "cutOne", "([III)I"⟩, prog_12_method_3_code, 6, (some .int), false, 3),
  (10, ⟨"OnePen$Text", "put", "(III)V"⟩, prog_12_method_4_code, 4, none, false, 3),
  (10, ⟨"OnePen$Text", "runEnd", "([IIICC)I"⟩, prog_12_method_5_code, 6, (some .int), true, 5),
  (10, ⟨"OnePen$Text", "numberIn", "([III)I"⟩, prog_12_method_6_code, 5, (some .int), true, 3),
  (10, ⟨"OnePen$Text", "wordIn", "([III)I"⟩, prog_12_method_7_code, 8, (some .int), true, 3)]
def xk_mt3 : List xk_MI := [(10, ⟨"OnePen$Text", "kind", "()I"⟩, prog_12_method_8_code, 1, (some .int), false, 0),
  (10, ⟨"OnePen$Text", "value", "()I"⟩, prog_12_method_9_code, 1, (some .int), false, 0),
  (10, ⟨"OnePen$Text", "isWord", "(I)Z"⟩, prog_12_method_10_code, 2, (some .boolean), false, 1),
  (10, ⟨"OnePen$Text", "isMark", "(I)Z"⟩, prog_12_method_11_code, 2, (some .boolean), false, 1),
  (10, ⟨"OnePen$Text", "step", "()V"⟩, prog_12_method_12_code, 1, none, false, 0),
  (10, ⟨"OnePen$Text", "fail", "(I)V"⟩, prog_12_method_13_code, 2, none, false, 1),
  (10, ⟨"OnePen$Text", "takeMark", "(I)V"⟩, prog_12_method_14_code, 2, none, false, 1),
  (10, ⟨"OnePen$Text", "takeNumber", "(III)I"⟩, prog_12_method_15_code, 5, (some .int), false, 3),
  (11, ⟨"OnePen", "<init>", "()V"⟩, prog_1_method_1_code, 2, none, false, 0),
  (11, ⟨"OnePen", "feed", "(IIIII)I"⟩, prog_1_method_2_code, 6, (some .int), false, 5),
  (11, ⟨"OnePen", "feedNumber", "(I)V"⟩, prog_1_method_3_code, 3, none, false, 1),
  (11, ⟨"OnePen", "end", "(I)I"⟩, prog_1_method_4_code, 2, (some .int), false, 1),
  (11, ⟨"OnePen", "office", "()I"⟩, prog_1_method_5_code, 1, (some .int), false, 0),
  (11, ⟨"OnePen", "rule", "()I"⟩, prog_1_method_6_code, 1, (some .int), false, 0),
  (11, ⟨"OnePen", "paper", "(II)I"⟩, prog_1_method_7_code, 5, (some .int), false, 2),
  (11, ⟨"OnePen", "clerk", "(II)I"⟩, prog_1_method_8_code, 4, (some .int), false, 2),
  (11, ⟨"OnePen", "count", "(I)I"⟩, prog_1_method_9_code, 4, (some .int), false, 1),
  (11, ⟨"OnePen", "sign", "(I)I"⟩, prog_1_method_10_code, 3, (some .int), false, 1),
  (11, ⟨"OnePen", "blank", "(I)I"⟩, prog_1_method_11_code, 3, (some .int), false, 1),
  (11, ⟨"OnePen", "await", "(I)I"⟩, prog_1_method_12_code, 2, (some .int), false, 1),
  (11, ⟨"OnePen", "filling", "()I"⟩, prog_1_method_13_code, 2, (some .int), false, 0),
  (11, ⟨"OnePen", "change", "()I"⟩, prog_1_method_14_code, 2, (some .int), false, 0),
  (11, ⟨"OnePen", "undo", "()I"⟩, prog_1_method_15_code, 1, (some .int), false, 0),
  (11, ⟨"OnePen", "canPass", "(I)Z"⟩, prog_1_method_16_code, 2, (some .boolean), false, 1),
  (11, ⟨"OnePen", "act", "()V"⟩, prog_1_method_17_code, 1, none, false, 0),
  (11, ⟨"OnePen", "when", "(II)I"⟩, prog_1_method_18_code, 4, (some .int), false, 2),
  (11, ⟨"OnePen", "by", "(II)I"⟩, prog_1_method_19_code, 3, (some .int), false, 2),
  (11, ⟨"OnePen", "waits", "(II)I"⟩, prog_1_method_20_code, 3, (some .int), false, 2),
  (11, ⟨"OnePen", "hasRule", "(I)Z"⟩, prog_1_method_21_code, 2, (some .boolean), false, 1),
  (11, ⟨"OnePen", "inRow", "([III)I"⟩, prog_1_method_22_code, 3, (some .int), true, 3)]
def xk_mt4 : List xk_MI := [(11, ⟨"OnePen", "plan", "(I)I"⟩, prog_1_method_23_code, 2, (some .int), false, 1),
  (11, ⟨"OnePen", "rings", "()I"⟩, prog_1_method_24_code, 1, (some .int), false, 0),
  (11, ⟨"OnePen", "blanks", "(I)I"⟩, prog_1_method_25_code, 3, (some .int), false, 1),
  (11, ⟨"OnePen", "leastBlanks", "(I)I"⟩, prog_1_method_26_code, 4, (some .int), false, 1),
  (11, ⟨"OnePen", "second", "(I)I"⟩, prog_1_method_27_code, 6, (some .int), false, 1),
  (11, ⟨"OnePen", "keep", "(I)I"⟩, prog_1_method_28_code, 8, (some .int), false, 1),
  (11, ⟨"OnePen", "late", "()I"⟩, prog_1_method_29_code, 1, (some .int), false, 0),
  (11, ⟨"OnePen", "log", "(III)I"⟩, prog_1_method_30_code, 5, (some .int), false, 3),
  (11, ⟨"OnePen", "orders", "(I)I"⟩, prog_1_method_31_code, 3, (some .int), false, 1),
  (11, ⟨"OnePen", "look", "(I)I"⟩, prog_1_method_32_code, 6, (some .int), false, 1),
  (11, ⟨"OnePen", "seed", "(I)I"⟩, prog_1_method_33_code, 3, (some .int), false, 1),
  (11, ⟨"OnePen", "days", "(II)I"⟩, prog_1_method_34_code, 6, (some .int), false, 2),
  (11, ⟨"OnePen", "drawDay", "(I)I"⟩, prog_1_method_35_code, 7, (some .int), false, 1),
  (11, ⟨"OnePen", "image", "(I)I"⟩, prog_1_method_36_code, 2, (some .int), false, 1),
  (11, ⟨"OnePen", "back", "(I)I"⟩, prog_1_method_37_code, 2, (some .int), false, 1),
  (11, ⟨"OnePen", "bit", "(II)I"⟩, prog_1_method_38_code, 2, (some .int), true, 2),
  (11, ⟨"OnePen", "has", "(II)Z"⟩, prog_1_method_39_code, 2, (some .boolean), true, 2),
  (11, ⟨"OnePen", "bitInPlace", "(II)I"⟩, prog_1_method_40_code, 4, (some .int), true, 2),
  (11, ⟨"OnePen", "copyRow", "([I[I)V"⟩, prog_1_method_41_code, 3, none, true, 2),
  (11, ⟨"OnePen", "fillRow", "([II)V"⟩, prog_1_method_42_code, 3, none, true, 2),
  (12, ⟨"OnePenModel", "<init>", "()V"⟩, prog_14_method_1_code, 1, none, false, 0),
  (12, ⟨"OnePenModel", "in", "(JJJ)Z"⟩, prog_14_method_2_code, 6, (some .boolean), true, 3),
  (12, ⟨"OnePenModel", "isOf", "(II)Z"⟩, prog_14_method_3_code, 2, (some .boolean), true, 2),
  (12, ⟨"OnePenModel", "bits", "(I)I"⟩, prog_14_method_4_code, 3, (some .int), true, 1),
  (12, ⟨"OnePenModel", "apart", "(II)I"⟩, prog_14_method_5_code, 2, (some .int), true, 2),
  (12, ⟨"OnePenModel", "four", "(I)V"⟩, prog_14_method_6_code, 3, none, false, 1),
  (12, ⟨"OnePenModel", "feed", "(IIIII)I"⟩, prog_14_method_7_code, 6, (some .int), false, 5),
  (12, ⟨"OnePenModel", "end", "(I)I"⟩, prog_14_method_8_code, 2, (some .int), false, 1),
  (12, ⟨"OnePenModel", "fails", "(II)Z"⟩, prog_14_method_9_code, 3, (some .boolean), false, 2),
  (12, ⟨"OnePenModel", "see", "()I"⟩, prog_14_method_10_code, 1, (some .int), false, 0)]
def xk_mt5 : List xk_MI := [(12, ⟨"OnePenModel", "isDigit", "(I)Z"⟩, prog_14_method_11_code, 2, (some .boolean), false, 1),
  (12, ⟨"OnePenModel", "isLetter", "(I)Z"⟩, prog_14_method_12_code, 2, (some .boolean), false, 1),
  (12, ⟨"OnePenModel", "isWord", "(J)Z"⟩, prog_14_method_13_code, 6, (some .boolean), false, 1),
  (12, ⟨"OnePenModel", "passWord", "()V"⟩, prog_14_method_14_code, 1, none, false, 0),
  (12, ⟨"OnePenModel", "takesWord", "(J)Z"⟩, prog_14_method_15_code, 3, (some .boolean), false, 1),
  (12, ⟨"OnePenModel", "numberHere", "(II)Z"⟩, prog_14_method_16_code, 5, (some .boolean), false, 2),
  (12, ⟨"OnePenModel", "wordHere", "()I"⟩, prog_14_method_17_code, 1, (some .int), false, 0),
  (12, ⟨"OnePenModel", "puts", "(II)V"⟩, prog_14_method_18_code, 3, none, false, 2),
  (12, ⟨"OnePenModel", "makes", "(I)Z"⟩, prog_14_method_19_code, 2, (some .boolean), false, 1),
  (12, ⟨"OnePenModel", "opens", "(I)Z"⟩, prog_14_method_20_code, 2, (some .boolean), false, 1),
  (12, ⟨"OnePenModel", "strength", "(I)I"⟩, prog_14_method_21_code, 1, (some .int), true, 1),
  (12, ⟨"OnePenModel", "settles", "(I)V"⟩, prog_14_method_22_code, 2, none, false, 1),
  (12, ⟨"OnePenModel", "value", "()Z"⟩, prog_14_method_23_code, 3, (some .boolean), false, 0),
  (12, ⟨"OnePenModel", "term", "()Z"⟩, prog_14_method_24_code, 2, (some .boolean), false, 0),
  (12, ⟨"OnePenModel", "sum", "()Z"⟩, prog_14_method_25_code, 2, (some .boolean), false, 0),
  (12, ⟨"OnePenModel", "compare", "()Z"⟩, prog_14_method_26_code, 5, (some .boolean), false, 0),
  (12, ⟨"OnePenModel", "fact", "()Z"⟩, prog_14_method_27_code, 3, (some .boolean), false, 0),
  (12, ⟨"OnePenModel", "isInside", "()Z"⟩, prog_14_method_28_code, 2, (some .boolean), false, 0),
  (12, ⟨"OnePenModel", "closes", "()V"⟩, prog_14_method_29_code, 1, none, false, 0),
  (12, ⟨"OnePenModel", "tested", "()Z"⟩, prog_14_method_30_code, 3, (some .boolean), false, 0),
  (12, ⟨"OnePenModel", "isSignHere", "()Z"⟩, prog_14_method_31_code, 2, (some .boolean), false, 0),
  (12, ⟨"OnePenModel", "cellHere", "(III)Z"⟩, prog_14_method_32_code, 4, (some .boolean), false, 3),
  (12, ⟨"OnePenModel", "isOfficeHere", "(I)Z"⟩, prog_14_method_33_code, 3, (some .boolean), false, 1),
  (12, ⟨"OnePenModel", "isClerkHere", "(I)Z"⟩, prog_14_method_34_code, 2, (some .boolean), false, 1),
  (12, ⟨"OnePenModel", "isAwayHere", "(I)Z"⟩, prog_14_method_35_code, 3, (some .boolean), false, 1),
  (12, ⟨"OnePenModel", "isPaperHere", "(I)Z"⟩, prog_14_method_36_code, 3, (some .boolean), false, 1),
  (12, ⟨"OnePenModel", "isRestHere", "()Z"⟩, prog_14_method_37_code, 3, (some .boolean), false, 0),
  (12, ⟨"OnePenModel", "officeLineHere", "(I)Z"⟩, prog_14_method_38_code, 2, (some .boolean), false, 1),
  (12, ⟨"OnePenModel", "isOfficeWord", "()Z"⟩, prog_14_method_39_code, 1, (some .boolean), false, 0),
  (12, ⟨"OnePenModel", "clauseHere", "()Z"⟩, prog_14_method_40_code, 3, (some .boolean), false, 0)]
def xk_mt6 : List xk_MI := [(12, ⟨"OnePenModel", "readsAll", "()Z"⟩, prog_14_method_41_code, 2, (some .boolean), false, 0),
  (12, ⟨"OnePenModel", "rule", "()I"⟩, prog_14_method_42_code, 1, (some .int), false, 0),
  (12, ⟨"OnePenModel", "office", "()I"⟩, prog_14_method_43_code, 2, (some .int), false, 0),
  (12, ⟨"OnePenModel", "isRule", "(I)Z"⟩, prog_14_method_44_code, 2, (some .boolean), false, 1),
  (12, ⟨"OnePenModel", "push", "(J)V"⟩, prog_14_method_45_code, 3, none, false, 1),
  (12, ⟨"OnePenModel", "pop", "()J"⟩, prog_14_method_46_code, 1, (some .long), false, 0),
  (12, ⟨"OnePenModel", "one", "(IJJ)J"⟩, prog_14_method_47_code, 5, (some .long), true, 3),
  (12, ⟨"OnePenModel", "reckons", "(III)J"⟩, prog_14_method_48_code, 11, (some .long), false, 3),
  (12, ⟨"OnePenModel", "isOffice", "()Z"⟩, prog_14_method_49_code, 1, (some .boolean), false, 0),
  (12, ⟨"OnePenModel", "isClerk", "(I)Z"⟩, prog_14_method_50_code, 2, (some .boolean), false, 1),
  (12, ⟨"OnePenModel", "isPaper", "(I)Z"⟩, prog_14_method_51_code, 2, (some .boolean), false, 1),
  (12, ⟨"OnePenModel", "paperOf", "(II)I"⟩, prog_14_method_52_code, 3, (some .int), false, 2),
  (12, ⟨"OnePenModel", "fixedOf", "(II)I"⟩, prog_14_method_53_code, 3, (some .int), false, 2),
  (12, ⟨"OnePenModel", "isSigned", "(I)Z"⟩, prog_14_method_54_code, 2, (some .boolean), false, 1),
  (12, ⟨"OnePenModel", "isInTime", "(I)Z"⟩, prog_14_method_55_code, 2, (some .boolean), false, 1),
  (12, ⟨"OnePenModel", "unsigned", "()I"⟩, prog_14_method_56_code, 3, (some .int), false, 0),
  (12, ⟨"OnePenModel", "papersOf", "(I)I"⟩, prog_14_method_57_code, 4, (some .int), false, 1),
  (12, ⟨"OnePenModel", "worthOf", "(I)I"⟩, prog_14_method_58_code, 4, (some .int), false, 1),
  (12, ⟨"OnePenModel", "awayIn", "(III)I"⟩, prog_14_method_59_code, 7, (some .int), false, 3),
  (12, ⟨"OnePenModel", "paper", "(II)I"⟩, prog_14_method_60_code, 3, (some .int), false, 2),
  (12, ⟨"OnePenModel", "clerk", "(II)I"⟩, prog_14_method_61_code, 3, (some .int), false, 2),
  (12, ⟨"OnePenModel", "reckonsSigning", "(I)V"⟩, prog_14_method_62_code, 6, none, false, 1),
  (12, ⟨"OnePenModel", "canSign", "(I)Z"⟩, prog_14_method_63_code, 2, (some .boolean), false, 1),
  (12, ⟨"OnePenModel", "restsBadly", "(I)Z"⟩, prog_14_method_64_code, 3, (some .boolean), false, 1),
  (12, ⟨"OnePenModel", "isVoid", "(I)Z"⟩, prog_14_method_65_code, 2, (some .boolean), false, 1),
  (12, ⟨"OnePenModel", "signs", "(I)V"⟩, prog_14_method_66_code, 3, none, false, 1),
  (12, ⟨"OnePenModel", "keepsAct", "()V"⟩, prog_14_method_67_code, 2, none, false, 0),
  (12, ⟨"OnePenModel", "undo", "()I"⟩, prog_14_method_68_code, 2, (some .int), false, 0),
  (12, ⟨"OnePenModel", "sign", "(I)I"⟩, prog_14_method_69_code, 2, (some .int), false, 1),
  (12, ⟨"OnePenModel", "blank", "(I)I"⟩, prog_14_method_70_code, 4, (some .int), false, 1)]
def xk_mt7 : List xk_MI := [(12, ⟨"OnePenModel", "await", "(I)I"⟩, prog_14_method_71_code, 2, (some .int), false, 1),
  (12, ⟨"OnePenModel", "filling", "()I"⟩, prog_14_method_72_code, 2, (some .int), false, 0),
  (12, ⟨"OnePenModel", "change", "()I"⟩, prog_14_method_73_code, 2, (some .int), false, 0),
  (12, ⟨"OnePenModel", "when", "(II)I"⟩, prog_14_method_74_code, 5, (some .int), false, 2),
  (12, ⟨"OnePenModel", "keeps", "()V"⟩, prog_14_method_75_code, 2, none, false, 0),
  (12, ⟨"OnePenModel", "laysBack", "()V"⟩, prog_14_method_76_code, 2, none, false, 0),
  (12, ⟨"OnePenModel", "summedBy", "(I)J"⟩, prog_14_method_77_code, 4, (some .long), false, 1),
  (12, ⟨"OnePenModel", "words", "(I)V"⟩, prog_14_method_78_code, 4, none, false, 1),
  (12, ⟨"OnePenModel", "nextBy", "(I)I"⟩, prog_14_method_79_code, 8, (some .int), false, 1),
  (12, ⟨"OnePenModel", "signsBy", "(I)V"⟩, prog_14_method_80_code, 3, none, false, 1),
  (12, ⟨"OnePenModel", "by", "(II)I"⟩, prog_14_method_81_code, 4, (some .int), false, 2),
  (12, ⟨"OnePenModel", "waits", "(II)I"⟩, prog_14_method_82_code, 7, (some .int), false, 2),
  (12, ⟨"OnePenModel", "keepsPlace", "(I)V"⟩, prog_14_method_83_code, 3, none, false, 1),
  (12, ⟨"OnePenModel", "laysPlace", "(I)V"⟩, prog_14_method_84_code, 3, none, false, 1),
  (12, ⟨"OnePenModel", "keepsPlan", "(II)V"⟩, prog_14_method_85_code, 5, none, false, 2),
  (12, ⟨"OnePenModel", "lost", "(I)I"⟩, prog_14_method_86_code, 4, (some .int), false, 1),
  (12, ⟨"OnePenModel", "keepsLate", "(II)V"⟩, prog_14_method_87_code, 4, none, false, 2),
  (12, ⟨"OnePenModel", "goesThrough", "(IIZ)V"⟩, prog_14_method_88_code, 6, none, false, 3),
  (12, ⟨"OnePenModel", "plan", "(I)I"⟩, prog_14_method_89_code, 4, (some .int), false, 1),
  (12, ⟨"OnePenModel", "keep", "(I)I"⟩, prog_14_method_90_code, 6, (some .int), false, 1),
  (12, ⟨"OnePenModel", "late", "()I"⟩, prog_14_method_91_code, 1, (some .int), false, 0),
  (12, ⟨"OnePenModel", "second", "(I)I"⟩, prog_14_method_92_code, 6, (some .int), false, 1),
  (12, ⟨"OnePenModel", "fillsReach", "(I)V"⟩, prog_14_method_93_code, 4, none, false, 1),
  (12, ⟨"OnePenModel", "ringsOf", "(I)I"⟩, prog_14_method_94_code, 4, (some .int), false, 1),
  (12, ⟨"OnePenModel", "rings", "()I"⟩, prog_14_method_95_code, 1, (some .int), false, 0),
  (12, ⟨"OnePenModel", "blanks", "(I)I"⟩, prog_14_method_96_code, 5, (some .int), false, 1),
  (12, ⟨"OnePenModel", "log", "(III)I"⟩, prog_14_method_97_code, 5, (some .int), false, 3),
  (12, ⟨"OnePenModel", "placeIn", "(I)I"⟩, prog_14_method_98_code, 3, (some .int), false, 1),
  (12, ⟨"OnePenModel", "strokesAhead", "(I)I"⟩, prog_14_method_99_code, 4, (some .int), false, 1),
  (12, ⟨"OnePenModel", "areLogsSo", "()Z"⟩, prog_14_method_100_code, 5, (some .boolean), false, 0)]
def xk_mt8 : List xk_MI := [(12, ⟨"OnePenModel", "keepsOrder", "()V"⟩, prog_14_method_101_code, 2, none, false, 0),
  (12, ⟨"OnePenModel", "isUsed", "(II)Z"⟩, prog_14_method_102_code, 4, (some .boolean), false, 2),
  (12, ⟨"OnePenModel", "findsOrders", "()V"⟩, prog_14_method_103_code, 2, none, false, 0),
  (12, ⟨"OnePenModel", "orders", "(I)I"⟩, prog_14_method_104_code, 5, (some .int), false, 1),
  (12, ⟨"OnePenModel", "alikeIn", "(I)I"⟩, prog_14_method_105_code, 4, (some .int), false, 1),
  (12, ⟨"OnePenModel", "look", "(I)I"⟩, prog_14_method_106_code, 4, (some .int), false, 1),
  (12, ⟨"OnePenModel", "seed", "(I)I"⟩, prog_14_method_107_code, 3, (some .int), false, 1),
  (12, ⟨"OnePenModel", "draw", "(I)I"⟩, prog_14_method_108_code, 2, (some .int), false, 1),
  (12, ⟨"OnePenModel", "drawn", "()I"⟩, prog_14_method_109_code, 4, (some .int), false, 0),
  (12, ⟨"OnePenModel", "days", "(II)I"⟩, prog_14_method_110_code, 7, (some .int), false, 2),
  (12, ⟨"OnePenModel", "count", "(I)I"⟩, prog_14_method_111_code, 2, (some .int), false, 1),
  (12, ⟨"OnePenModel", "image", "(I)I"⟩, prog_14_method_112_code, 3, (some .int), false, 1),
  (12, ⟨"OnePenModel", "back", "(I)I"⟩, prog_14_method_113_code, 3, (some .int), false, 1),
  (13, ⟨"java/lang/Integer", "bitCount", "(I)I"⟩, prog_15_method_49_code, 1, (some .int), true, 1)]
def xk_mtL : List xk_MI := xk_mt0 ++ xk_mt1 ++ xk_mt2 ++ xk_mt3 ++ xk_mt4 ++ xk_mt5 ++ xk_mt6 ++ xk_mt7 ++ xk_mt8
def xk_mt (y : Nat) : Option xk_MI := xk_mtL[y]?
set_option maxRecDepth 100000 in
theorem xk_mc0 : xk_mt0.map (fun e => Cond.code e.2.1 e.2.2.1 e.2.2.2.1 e.2.2.2.2.1) = [303, 828, 698, 702, 939, 788, 819, 846, 842, 837, 833, 859, 295, 1133, 387, 713, 870, 909, 349, 1139, 709, 1056, 1061, 1081, 1085, 1088, 1091, 170, 691, 627].filterMap (fun i => lw_tbl[i]?) := by rfl
set_option maxRecDepth 100000 in
theorem xk_mc1 : xk_mt1.map (fun e => Cond.code e.2.1 e.2.2.1 e.2.2.2.1 e.2.2.2.2.1) = [631, 647, 655, 667, 671, 675, 679, 799, 781, 850, 811, 945, 803, 807, 1014, 1018, 474, 1069, 1073, 1077, 1097, 1105, 434, 989, 993, 997, 1006, 1043, 1046, 265].filterMap (fun i => lw_tbl[i]?) := by rfl
set_option maxRecDepth 100000 in
theorem xk_mc2 : xk_mt2.map (fun e => Cond.code e.2.1 e.2.2.1 e.2.2.2.1 e.2.2.2.2.1) = [772, 726, 746, 951, 954, 962, 958, 965, 968, 259, 722, 754, 758, 763, 768, 736, 750, 740, 410, 925, 930, 935, 980, 141, 557, 561, 571, 564, 567, 574].filterMap (fun i => lw_tbl[i]?) := by rfl
set_option maxRecDepth 100000 in
theorem xk_mc3 : xk_mt3.map (fun e => Cond.code e.2.1 e.2.2.1 e.2.2.2.1 e.2.2.2.2.1) = [635, 639, 730, 687, 651, 643, 683, 659, 133, 541, 545, 549, 553, 718, 777, 795, 815, 824, 878, 889, 897, 901, 905, 893, 866, 913, 917, 976, 921, 972].filterMap (fun i => lw_tbl[i]?) := by rfl
set_option maxRecDepth 100000 in
theorem xk_mc4 : xk_mt4.map (fun e => Cond.code e.2.1 e.2.2.1 e.2.2.2.1 e.2.2.2.2.1) = [985, 1010, 1022, 1026, 1030, 1035, 1039, 1052, 1065, 1101, 1110, 1114, 1118, 1129, 1144, 784, 791, 1125, 694, 705, 1149, 1365, 1551, 1605, 1532, 1300, 1296, 1304, 1342, 1320].filterMap (fun i => lw_tbl[i]?) := by rfl
set_option maxRecDepth 100000 in
theorem xk_mc5 : xk_mt5.map (fun e => Cond.code e.2.1 e.2.2.1 e.2.2.2.1 e.2.2.2.2.1) = [1362, 1333, 1329, 1354, 1430, 1358, 1414, 1410, 1406, 1443, 1458, 1455, 1401, 1397, 1393, 1447, 1438, 1462, 1451, 1434, 1389, 1369, 1350, 1373, 1377, 1381, 1385, 1346, 1324, 1316].filterMap (fun i => lw_tbl[i]?) := by rfl
set_option maxRecDepth 100000 in
theorem xk_mc6 : xk_mt6.map (fun e => Cond.code e.2.1 e.2.2.1 e.2.2.2.1 e.2.2.2.2.1) = [1312, 1308, 1468, 1585, 1617, 1621, 1624, 1613, 1563, 1500, 1476, 1484, 1480, 1492, 1488, 1513, 1509, 1628, 1505, 1472, 1496, 1529, 1525, 1548, 1544, 1540, 1536, 1517, 1521, 1555].filterMap (fun i => lw_tbl[i]?) := by rfl
set_option maxRecDepth 100000 in
theorem xk_mc7 : xk_mt7.map (fun e => Cond.code e.2.1 e.2.2.1 e.2.2.2.1 e.2.2.2.2.1) = [1559, 1568, 1572, 1576, 1590, 1632, 1609, 1602, 1598, 1594, 1581, 1636, 1648, 1664, 1660, 1656, 1652, 1644, 1640, 1668, 1672, 1676, 1688, 1684, 1680, 1692, 1696, 1722, 1726, 1718].filterMap (fun i => lw_tbl[i]?) := by rfl
set_option maxRecDepth 100000 in
theorem xk_mc8 : xk_mt8.map (fun e => Cond.code e.2.1 e.2.2.1 e.2.2.2.1 e.2.2.2.2.1) = [1714, 1710, 1706, 1701, 1734, 1730, 1738, 1751, 1747, 1742, 1759, 1763, 1767, 882].filterMap (fun i => lw_tbl[i]?) := by rfl
/-- what a getfield, putfield names: own class * 1000 + entry; class, field; place of the word -/
def xk_fl : List (Nat × Nat × Nat × Nat) := [(11009, 11, 0, 492), (11016, 11, 2, 494), (11023, 11, 3, 495), (11030, 11, 4, 496), (11036, 11, 5, 497), (11043, 11, 7, 499), (11047, 11, 8, 500), (11051, 11, 9, 501), (11058, 11, 10, 502), (11065, 11, 11, 503), (11072, 11, 12, 504), (11079, 11, 13, 505), (11086, 11, 14, 506), (11091, 11, 1, 493), (11107, 10, 5, 151), (11110, 1, 0, 366), (11117, 1, 1, 368), (11123, 1, 2, 370), (11133, 4, 6, 193), (11136, 11, 6, 498), (11142, 8, 0, 282), (11152, 4, 11, 202), (11155, 4, 12, 206), (11158, 4, 13, 212), (11161, 4, 14, 217), (11164, 0, 7, 327), (11167, 0, 5, 322), (11174, 0, 6, 324), (11181, 4, 15, 220), (11187, 4, 7, 196), (11190, 0, 0, 308), (11201, 0, 4, 319), (11204, 4, 1, 176), (11207, 4, 2, 179), (11210, 4, 3, 182), (11213, 4, 4, 185), (11216, 4, 5, 187), (11219, 0, 1, 311), (11222, 0, 2, 314), (11223, 0, 3, 317), (11228, 3, 0, 352), (11231, 2, 2, 395), (11232, 1, 3, 372), (11260, 4, 0, 173), (11274, 9, 0, 415), (11275, 9, 2, 419), (11276, 9, 1, 417), (11290, 6, 0, 439), (11293, 6, 1, 441), (11303, 6, 3, 445), (11306, 6, 2, 443), (11335, 5, 0, 477), (11338, 5, 1, 479), (9, 0, 1, 309), (15, 0, 7, 325), (19, 0, 0, 305), (22, 0, 2, 312), (25, 0, 3, 315), (28, 0, 4, 318), (31, 0, 5, 320), (34, 0, 6, 323), (41, 4, 4, 184), (54, 4, 1, 175), (55, 4, 2, 178), (56, 4, 6, 192), (63, 4, 13, 211), (70, 4, 14, 216), (73, 4, 12, 207), (76, 4, 11, 203), (83, 4, 3, 181), (113, 4, 15, 221), (1010, 1, 0, 365), (1019, 1, 1, 367), (1026, 1, 2, 369), (1040, 1, 3, 371), (2011, 2, 0, 392), (2018, 2, 2, 394), (2022, 2, 1, 393), (3009, 3, 1, 353), (3015, 3, 2, 354), (3018, 3, 3, 355), (3021, 3, 0, 351), (3046, 4, 6, 194), (3049, 4, 12, 208), (4009, 4, 7, 195), (4015, 4, 8, 197), (4018, 4, 9, 198), (4021, 4, 10, 199), (4024, 4, 11, 200), (4027, 4, 12, 204), (4030, 4, 13, 209), (4033, 4, 14, 213), (4036, 4, 15, 218), (4039, 4, 0, 172), (4043, 4, 1, 174), (4047, 4, 2, 177), (4050, 4, 3, 180), (4053, 4, 4, 183), (4056, 4, 5, 186), (4059, 4, 6, 188), (4066, 10, 5, 150), (5009, 5, 1, 478), (5015, 5, 2, 480), (5018, 5, 3, 481), (5021, 5, 0, 476), (5033, 4, 6, 189), (6009, 6, 3, 444), (6015, 6, 6, 448), (6020, 6, 7, 449), (6025, 6, 4, 446), (6029, 6, 5, 447), (6036, 6, 0, 438), (6047, 4, 6, 191), (6060, 0, 5, 321), (6067, 0, 0, 306), (6070, 6, 1, 440), (6073, 6, 2, 442), (6080, 6, 8, 450), (6089, 4, 14, 215), (7009, 7, 0, 267), (7015, 7, 1, 268), (7018, 7, 3, 270), (7022, 7, 2, 269), (8012, 8, 0, 281), (8018, 8, 1, 283), (8025, 10, 5, 149), (9012, 9, 0, 414), (9018, 9, 1, 416), (9022, 9, 3, 420), (9030, 9, 2, 418), (9042, 4, 6, 190), (9064, 4, 11, 201), (9067, 4, 12, 205), (9070, 4, 13, 210), (9073, 4, 14, 214), (9076, 0, 1, 310), (9083, 0, 0, 307), (9086, 4, 15, 219), (9098, 0, 2, 313), (9101, 0, 3, 316), (9112, 0, 7, 326), (10009, 10, 0, 143), (10015, 10, 1, 144), (10018, 10, 2, 145), (10021, 10, 3, 146), (10025, 10, 4, 147), (10028, 10, 5, 148), (12007, 12, 0, 1151), (12013, 12, 3, 1154), (12017, 12, 4, 1155), (12020, 12, 5, 1156), (12023, 12, 6, 1157), (12026, 12, 7, 1158), (12029, 12, 15, 1166), (12032, 12, 17, 1168), (12036, 12, 19, 1170), (12039, 12, 20, 1171), (12042, 12, 22, 1173), (12046, 12, 27, 1178), (12049, 12, 29, 1180), (12052, 12, 30, 1181), (12055, 12, 32, 1183), (12058, 12, 33, 1184), (12061, 12, 34, 1185), (12064, 12, 39, 1190), (12067, 12, 41, 1192), (12070, 12, 42, 1193), (12073, 12, 44, 1195), (12076, 12, 45, 1196), (12079, 12, 46, 1197), (12083, 12, 1, 1152), (12090, 12, 9, 1160), (12093, 12, 8, 1159), (12118, 12, 10, 1161), (12151, 12, 11, 1162), (12154, 12, 12, 1163), (12157, 12, 13, 1164), (12160, 12, 16, 1167), (12253, 12, 14, 1165), (12265, 12, 2, 1153), (12271, 12, 28, 1179), (12274, 12, 18, 1169), (12323, 12, 24, 1175), (12326, 12, 25, 1176), (12329, 12, 26, 1177), (12336, 12, 23, 1174), (12378, 12, 31, 1182), (12401, 12, 35, 1186), (12404, 12, 36, 1187), (12407, 12, 37, 1188), (12413, 12, 38, 1189), (12449, 12, 40, 1191), (12466, 12, 21, 1172), (12469, 12, 43, 1194)]
/-- what a call names: own class * 1000 + entry; method; place of the word; nest -/
def xk_ml : List (Nat × Nat × Nat × Bool) := [(37, 138, 829, true), (46, 3, 699, false), (50, 139, 703, true), (59, 136, 789, true), (66, 5, 820, false), (79, 7, 843, false), (86, 39, 847, false), (90, 43, 855, false), (94, 38, 838, false), (98, 8, 839, false), (101, 9, 834, false), (104, 11, 856, false), (1009, 27, 298, true), (1018, 0, 301, true), (1025, 18, 347, true), (1030, 28, 1134, false), (1034, 1, 1135, false), (1037, 19, 1136, false), (2017, 0, 391, true), (2025, 1, 871, false), (3025, 138, 1140, true), (3029, 38, 1057, false), (3035, 24, 1082, false), (3039, 25, 1086, false), (3043, 26, 1089, false), (4062, 138, 692, true), (4071, 30, 628, false), (4075, 90, 632, false), (4079, 96, 680, false), (4083, 91, 636, false), (4086, 95, 640, false), (4089, 31, 644, false), (4093, 94, 648, false), (4096, 32, 652, false), (4100, 33, 664, false), (4103, 34, 668, false), (4106, 35, 672, false), (4109, 36, 676, false), (4112, 97, 656, false), (4116, 37, 851, false), (4125, 136, 946, true), (4129, 43, 804, false), (4132, 45, 1015, false), (5025, 139, 1070, true), (5029, 48, 1071, false), (5038, 49, 1074, false), (5042, 136, 1093, true), (5046, 23, 1078, false), (5052, 138, 1092, true), (6024, 0, 437, true), (6032, 1, 990, false), (6039, 54, 991, false), (6043, 55, 994, false), (6052, 136, 1000, true), (6056, 10, 1001, false), (6063, 6, 998, false), (6076, 138, 999, true), (6083, 58, 1044, false), (6086, 4, 1047, false), (7026, 138, 773, true), (7030, 64, 952, false), (7034, 66, 955, false), (7038, 65, 959, false), (7042, 67, 963, false), (7046, 68, 966, false), (8011, 59, 263, true), (8022, 61, 723, false), (8030, 92, 727, false), (8034, 95, 731, false), (8038, 94, 732, false), (8041, 75, 733, false), (8045, 71, 751, false), (8049, 62, 743, false), (8053, 90, 741, false), (8057, 96, 764, false), (8060, 72, 755, false), (8063, 93, 759, false), (8066, 73, 760, false), (8069, 74, 765, false), (8073, 91, 742, false), (8076, 77, 737, false), (8079, 76, 747, false), (9011, 0, 413, true), (9026, 1, 926, false), (9034, 80, 927, false), (9038, 10, 969, false), (9047, 9, 931, false), (9051, 81, 932, false), (9054, 63, 948, false), (9060, 4, 936, false), (9079, 39, 940, false), (9089, 253, 941, false), (9095, 41, 942, false), (9104, 8, 947, false), (9108, 38, 981, false), (10031, 85, 558, false), (10035, 86, 568, false), (10039, 87, 562, false), (10043, 88, 565, false), (10046, 89, 572, false), (10061, 90, 661, false), (10064, 91, 660, false), (10067, 93, 684, false), (10071, 94, 663, false), (10074, 95, 662, false), (11015, 83, 139, true), (11022, 27, 168, true), (11029, 69, 257, true), (11042, 12, 293, true), (11057, 14, 385, false), (11064, 0, 405, true), (11071, 78, 408, true), (11078, 52, 432, false), (11085, 46, 472, true), (11090, 59, 491, true), (11095, 100, 542, false), (11099, 84, 554, false), (11103, 29, 624, false), (11113, 28, 688, false), (11120, 2, 695, false), (11127, 20, 706, false), (11132, 15, 710, false), (11139, 70, 719, false), (11145, 60, 769, false), (11148, 38, 778, false), (11170, 135, 782, false), (11177, 5, 785, false), (11184, 37, 796, false), (11193, 42, 800, false), (11197, 40, 808, false), (11224, 6, 816, false), (11235, 1, 825, false), (11238, 10, 830, false), (11242, 114, 863, false), (11245, 136, 879, false), (11248, 253, 880, false), (11253, 113, 890, false), (11256, 17, 906, false), (11264, 16, 867, false), (11267, 118, 918, false), (11270, 79, 922, false), (11279, 119, 970, false), (11283, 82, 977, false), (11286, 53, 986, false), (11296, 4, 1002, false), (11299, 56, 1003, false), (11309, 44, 1011, false), (11312, 123, 1023, false), (11315, 3, 1031, false), (11319, 57, 1040, false), (11323, 21, 1053, false), (11327, 22, 1058, false), (11331, 47, 1066, false), (11341, 50, 1094, false), (11344, 51, 1102, false), (11347, 132, 1115, false), (11357, 137, 1123, false), (11360, 13, 1130, false), (12086, 145, 1297, false), (12096, 149, 1317, false), (12100, 151, 1330, false), (12104, 152, 1326, false), (12108, 153, 1351, false), (12111, 150, 1359, false), (12114, 148, 1339, false), (12121, 141, 1363, false), (12163, 160, 1456, false), (12167, 157, 1407, false), (12172, 155, 1355, false), (12175, 158, 1403, false), (12178, 156, 1411, false), (12181, 162, 1398, false), (12185, 163, 1394, false), (12188, 164, 1390, false), (12193, 159, 1440, false), (12196, 165, 1444, false), (12199, 161, 1452, false), (12202, 167, 1459, false), (12205, 166, 1435, false), (12208, 168, 1448, false), (12217, 154, 1427, false), (12220, 169, 1431, false), (12223, 171, 1366, false), (12229, 172, 1347, false), (12232, 173, 1370, false), (12237, 174, 1374, false), (12240, 175, 1378, false), (12243, 176, 1382, false), (12248, 178, 1321, false), (12256, 177, 1343, false), (12259, 170, 1386, false), (12262, 179, 1313, false), (12268, 180, 1309, false), (12277, 184, 1614, false), (12281, 185, 1618, false), (12285, 186, 1622, false), (12289, 191, 1481, false), (12293, 193, 1489, false), (12296, 192, 1477, false), (12299, 142, 1549, false), (12302, 194, 1485, false), (12305, 190, 1473, false), (12308, 189, 1497, false), (12313, 198, 1502, false), (12317, 196, 1506, false), (12320, 195, 1510, false), (12333, 144, 1530, false), (12339, 201, 1526, false), (12342, 203, 1545, false), (12345, 204, 1541, false), (12348, 202, 1522, false), (12351, 206, 1533, false), (12354, 205, 1537, false), (12357, 188, 1560, false), (12364, 187, 1610, false), (12368, 143, 1603, false), (12371, 217, 1599, false), (12374, 216, 1606, false), (12381, 218, 1595, false), (12384, 183, 1582, false), (12389, 214, 1587, false), (12392, 219, 1591, false), (12395, 197, 1625, false), (12398, 215, 1629, false), (12410, 225, 1653, false), (12416, 222, 1645, false), (12419, 226, 1649, false), (12422, 224, 1657, false), (12425, 223, 1661, false), (12428, 227, 1641, false), (12432, 232, 1685, false), (12435, 233, 1681, false), (12440, 237, 1719, false), (12443, 238, 1723, false), (12446, 239, 1715, false), (12452, 241, 1707, false), (12455, 240, 1711, false), (12460, 242, 1703, false), (12463, 244, 1731, false), (12481, 247, 1748, false), (12486, 248, 1744, false), (14009, 98, 131, false), (14012, 140, 1147, false), (14013, 99, 538, false), (14017, 146, 1293, false), (14018, 101, 546, false), (14022, 147, 1301, false), (14023, 102, 550, false), (14027, 182, 1465, false), (14028, 103, 715, false), (14031, 181, 1305, false), (14032, 104, 774, false), (14036, 199, 1469, false), (14037, 105, 792, false), (14040, 200, 1493, false), (14041, 107, 821, false), (14044, 208, 1518, false), (14045, 108, 875, false), (14048, 209, 1552, false), (14049, 109, 886, false), (14052, 210, 1556, false), (14053, 110, 894, false), (14056, 211, 1565, false), (14057, 111, 898, false), (14060, 212, 1569, false), (14061, 112, 902, false), (14064, 207, 1514, false), (14065, 115, 910, false), (14068, 213, 1573, false), (14069, 116, 914, false), (14072, 220, 1578, false), (14073, 117, 973, false), (14076, 221, 1633, false), (14077, 120, 982, false), (14080, 228, 1637, false), (14081, 121, 1007, false), (14084, 234, 1677, false), (14085, 122, 1019, false), (14088, 235, 1689, false), (14089, 124, 1027, false), (14092, 231, 1673, false), (14093, 125, 1032, false), (14096, 229, 1665, false), (14097, 126, 1036, false), (14100, 230, 1669, false), (14101, 127, 1049, false), (14105, 236, 1693, false), (14106, 128, 1062, false), (14109, 243, 1698, false), (14110, 129, 1098, false), (14113, 245, 1727, false), (14114, 130, 1107, false), (14117, 246, 1735, false), (14118, 131, 1111, false), (14121, 249, 1739, false), (14122, 106, 812, false), (14125, 250, 1756, false), (14126, 133, 1126, false), (14129, 251, 1760, false), (14130, 134, 1141, false), (14133, 252, 1764, false)]
def xk_kl : List (Nat × Nat × Nat) := [(11013, 10, 137), (11020, 4, 166), (11027, 8, 255), (11034, 7, 289), (11040, 1, 291), (11055, 2, 383), (11062, 0, 404), (11069, 9, 406), (11076, 6, 430), (11083, 5, 470), (1007, 4, 297), (1016, 0, 299), (1023, 3, 345), (2009, 0, 389), (6018, 0, 436), (8009, 7, 261), (9009, 0, 412), (14007, 11, 129), (14010, 12, 1145)]
def xk_il : List (Nat × Int32 × Nat) := [(11356, 65536, 1122), (12171, 99999, 1402), (13265, 1431655765, 883), (13266, 858993459, 884), (13267, 252645135, 885)]
def xk_jl : List (Nat × Int64 × Nat) := [(11350, 1103515245, 1119), (11352, 12345, 1120), (11354, 2147483647, 1121), (12125, 482671093106, 1336), (12127, 427020350059, 1334), (12129, 32497657166128499, 1415), (12131, 6583653, 1416), (12133, 512970880104, 1417), (12135, 7823737, 1418), (12137, 1818584692, 1419), (12139, 474147546227, 1420), (12141, 422607680115, 1421), (12143, 6909547, 1422), (12145, 7235938, 1423), (12147, 120299592184933, 1424), (12149, 108187666181747, 1425), (12191, 7237492, 1439), (12211, 6385252, 1463), (12213, 28530, 1464), (12215, 26982, 1426), (12227, 122485595530085, 1325), (12235, 1635213689, 1335), (12246, 491328337011, 1337), (12251, 1936287598, 1338), (12311, 3, 1501), (12360, 100, 1564), (12362, 2, 1577), (12387, 8, 1586), (12438, 99, 1697), (12458, 12, 1702), (12473, 1103515245, 1752), (12475, 12345, 1753), (12477, 2147483648, 1754), (12479, 65536, 1755), (12484, 20, 1743)]
def xk_ol : List (Nat × Nat) := [(11003, 134), (3, 304), (1001, 296), (2003, 388), (3003, 350), (4003, 171), (5003, 475), (6003, 435), (7003, 266), (8003, 260), (9003, 411), (10003, 142), (12001, 1150)]
def xk_nl : List (Nat × Nat × Nat) := [(10051, 0, 576), (10057, 1, 586)]
/-- places: instanceMethod or static, initialized of the class, selects (instance, not <init>) -/
def xk_pl : List (Nat × Nat × Nat) := [(302, 116, 0), (826, 116, 827), (696, 116, 697), (700, 116, 701), (937, 116, 938), (786, 116, 787), (817, 116, 818), (845, 116, 17), (840, 116, 841), (835, 116, 836), (831, 116, 832), (858, 116, 18), (294, 115, 0), (1131, 115, 1132), (386, 118, 0), (711, 118, 712), (868, 118, 869), (907, 118, 908), (348, 117, 0), (1137, 117, 1138), (707, 117, 708), (1054, 117, 1055), (1059, 117, 1060), (1079, 117, 1080), (1084, 117, 30), (1087, 117, 0), (1090, 117, 0), (169, 112, 0), (689, 112, 690), (625, 112, 626), (630, 112, 3), (646, 112, 4), (654, 112, 5), (666, 112, 6), (670, 112, 7), (674, 112, 8), (678, 112, 9), (797, 112, 798), (779, 112, 780), (848, 112, 849), (809, 112, 810), (943, 112, 944), (801, 112, 802), (805, 112, 806), (1012, 112, 1013), (1017, 112, 27), (473, 121, 0), (1067, 121, 1068), (1072, 121, 0), (1076, 121, 29), (1095, 121, 1096), (1103, 121, 1104), (433, 120, 0), (987, 120, 988), (992, 120, 0), (996, 120, 26), (1004, 120, 1005), (1041, 120, 1042), (1045, 120, 0), (264, 114, 0), (770, 114, 771), (724, 114, 725), (744, 114, 745), (949, 114, 950), (953, 114, 0), (961, 114, 25), (957, 114, 24), (964, 114, 0), (967, 114, 0), (258, 113, 0), (720, 113, 721), (753, 113, 13), (757, 113, 14), (762, 113, 15), (767, 113, 16), (735, 113, 10), (749, 113, 12), (739, 113, 11), (409, 119, 0), (923, 119, 924), (929, 119, 22), (934, 119, 23), (978, 119, 979), (140, 111, 0), (555, 111, 556), (560, 111, 1), (570, 111, 2), (563, 111, 0), (566, 111, 0), (573, 111, 0), (633, 111, 634), (637, 111, 638), (728, 111, 729), (685, 111, 686), (649, 111, 650), (641, 111, 642), (681, 111, 682), (657, 111, 658), (132, 110, 0), (539, 110, 540), (544, 110, 0), (547, 110, 548), (551, 110, 552), (716, 110, 717), (775, 110, 776), (793, 110, 794), (813, 110, 814), (822, 110, 823), (876, 110, 877), (887, 110, 888), (895, 110, 896), (899, 110, 900), (903, 110, 904), (892, 110, 20), (865, 110, 19), (911, 110, 912), (915, 110, 916), (974, 110, 975), (920, 110, 21), (971, 110, 0), (983, 110, 984), (1008, 110, 1009), (1020, 110, 1021), (1025, 110, 28), (1028, 110, 1029), (1033, 110, 1034), (1037, 110, 1038), (1050, 110, 1051), (1063, 110, 1064), (1099, 110, 1100), (1108, 110, 1109), (1112, 110, 1113), (1117, 110, 31), (1127, 110, 1128), (1142, 110, 1143), (783, 110, 0), (790, 110, 0), (1124, 110, 0), (693, 110, 0), (704, 110, 0), (1148, 122, 0), (1364, 122, 0), (1550, 122, 0), (1604, 122, 0), (1531, 122, 0), (1299, 122, 32), (1294, 122, 1295), (1302, 122, 1303), (1341, 122, 39), (1319, 122, 35), (1361, 122, 44), (1332, 122, 38), (1328, 122, 37), (1353, 122, 42), (1429, 122, 57), (1357, 122, 43), (1413, 122, 56), (1409, 122, 55), (1405, 122, 54), (1442, 122, 60), (1457, 122, 0), (1454, 122, 63), (1400, 122, 53), (1396, 122, 52), (1392, 122, 51), (1446, 122, 61), (1437, 122, 59), (1461, 122, 64), (1450, 122, 62), (1433, 122, 58), (1388, 122, 50), (1368, 122, 45), (1349, 122, 41), (1372, 122, 46), (1376, 122, 47), (1380, 122, 48), (1384, 122, 49), (1345, 122, 40), (1323, 122, 36), (1315, 122, 34), (1311, 122, 33), (1306, 122, 1307), (1466, 122, 1467), (1584, 122, 81), (1616, 122, 88), (1620, 122, 89), (1623, 122, 0), (1612, 122, 87), (1562, 122, 80), (1499, 122, 70), (1475, 122, 65), (1483, 122, 67), (1479, 122, 66), (1491, 122, 69), (1487, 122, 68), (1512, 122, 73), (1508, 122, 72), (1627, 122, 90), (1504, 122, 71), (1470, 122, 1471), (1494, 122, 1495), (1528, 122, 75), (1524, 122, 74), (1547, 122, 79), (1543, 122, 78), (1539, 122, 77), (1535, 122, 76), (1515, 122, 1516), (1519, 122, 1520), (1553, 122, 1554), (1557, 122, 1558), (1566, 122, 1567), (1570, 122, 1571), (1574, 122, 1575), (1589, 122, 82), (1631, 122, 91), (1608, 122, 86), (1601, 122, 85), (1597, 122, 84), (1593, 122, 83), (1579, 122, 1580), (1634, 122, 1635), (1647, 122, 93), (1663, 122, 97), (1659, 122, 96), (1655, 122, 95), (1651, 122, 94), (1643, 122, 92), (1638, 122, 1639), (1666, 122, 1667), (1670, 122, 1671), (1674, 122, 1675), (1687, 122, 99), (1683, 122, 98), (1678, 122, 1679), (1690, 122, 1691), (1694, 122, 1695), (1721, 122, 104), (1725, 122, 105), (1717, 122, 103), (1713, 122, 102), (1709, 122, 101), (1705, 122, 100), (1699, 122, 1700), (1733, 122, 106), (1728, 122, 1729), (1736, 122, 1737), (1750, 122, 108), (1746, 122, 107), (1740, 122, 1741), (1757, 122, 1758), (1761, 122, 1762), (1765, 122, 1766), (881, 128, 0)]
def xk_ql : List (Nat × Nat × Nat) := [(108, 1, 860), (2029, 2, 872), (4119, 0, 852), (5056, 1, 1106), (6092, 1, 1048)]
def xk_lp : List Nat := [328, 330, 332, 334, 336, 338, 340, 342, 373, 375, 377, 379, 396, 398, 400, 356, 358, 360, 362, 222, 224, 226, 228, 230, 232, 234, 236, 238, 240, 242, 244, 246, 248, 250, 252, 482, 484, 486, 488, 451, 453, 455, 457, 459, 461, 463, 465, 467, 271, 273, 275, 277, 284, 286, 421, 423, 425, 427, 152, 154, 156, 158, 160, 162, 507, 509, 511, 513, 515, 517, 519, 521, 523, 525, 527, 529, 531, 533, 535, 1198, 1200, 1202, 1204, 1206, 1208, 1210, 1212, 1214, 1216, 1218, 1220, 1222, 1224, 1226, 1228, 1230, 1232, 1234, 1236, 1238, 1240, 1242, 1244, 1246, 1248, 1250, 1252, 1254, 1256, 1258, 1260, 1262, 1264, 1266, 1268, 1270, 1272, 1274, 1276, 1278, 1280, 1282, 1284, 1286, 1288, 1290]
def xk_insta : List Nat := [300, 292, 384, 346, 167, 471, 431, 262, 256, 407, 138, 130, 1146]
