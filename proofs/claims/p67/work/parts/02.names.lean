def RX0 : String := "RateLimiter$Accounts"
def TX0 : u_T := fun k => match k with
  | 0 => ("RateLimiter$Accounts", "tokens", "[I", true)
  | 1 => ("RateLimiter$Accounts", "credit", "[I", true)
  | _ => ("RateLimiter$Accounts", "headroom", "[I", true)
def tyX0 : Nat → FieldType := fun k => match k with
  | 0 => .array .int
  | 1 => .array .int
  | _ => .array .int
abbrev wsX00 : List Cond := u_ws RX0 TX0 3
theorem nmX0 : ∀ a, a < 3 → ∀ b, b < 3 → a ≠ b → (TX0 a).2.1 ≠ (TX0 b).2.1 := by decide +kernel
theorem tyX0_ok : ∀ k, k < 3 → parseFieldDescriptor (TX0 k).2.2.1 = some (tyX0 k) := by decide +kernel
abbrev cX0_init : ByteArray := prog_2_method_1_code
def yX0_init : MethodName := ⟨RX0, "<init>", "()V"⟩
abbrev cX0_begin : ByteArray := prog_2_method_2_code
def yX0_begin : MethodName := ⟨RX0, "begin", "(LRateLimiter$Setup;)V"⟩
abbrev cX0_copyFrom : ByteArray := prog_2_method_3_code
def yX0_copyFrom : MethodName := ⟨RX0, "copyFrom", "(LRateLimiter$Accounts;)V"⟩
abbrev cX0_refill : ByteArray := prog_2_method_4_code
def yX0_refill : MethodName := ⟨RX0, "refill", "(LRateLimiter$Setup;III)V"⟩
abbrev cX0_findBlocking : ByteArray := prog_2_method_5_code
def yX0_findBlocking : MethodName := ⟨RX0, "findBlocking", "(LRateLimiter$Setup;II)I"⟩
abbrev cX0_findLender : ByteArray := prog_2_method_6_code
def yX0_findLender : MethodName := ⟨RX0, "findLender", "(LRateLimiter$Setup;II)I"⟩
abbrev cX0_pay : ByteArray := prog_2_method_7_code
def yX0_pay : MethodName := ⟨RX0, "pay", "(LRateLimiter$Setup;III)V"⟩
abbrev cX0_payOften : ByteArray := prog_2_method_8_code
def yX0_payOften : MethodName := ⟨RX0, "payOften", "(LRateLimiter$Setup;II)I"⟩
def RX1 : String := "RateLimiter$Changes"
def TX1 : u_T := fun k => match k with
  | 0 => ("RateLimiter$Changes", "count", "I", false)
  | 1 => ("RateLimiter$Changes", "time", "[I", true)
  | 2 => ("RateLimiter$Changes", "node", "[I", true)
  | 3 => ("RateLimiter$Changes", "setting", "[I", true)
  | _ => ("RateLimiter$Changes", "value", "[I", true)
def tyX1 : Nat → FieldType := fun k => match k with
  | 0 => .int
  | 1 => .array .int
  | 2 => .array .int
  | 3 => .array .int
  | _ => .array .int
abbrev wsX10 : List Cond := u_ws RX1 TX1 5
theorem nmX1 : ∀ a, a < 5 → ∀ b, b < 5 → a ≠ b → (TX1 a).2.1 ≠ (TX1 b).2.1 := by decide +kernel
theorem tyX1_ok : ∀ k, k < 5 → parseFieldDescriptor (TX1 k).2.2.1 = some (tyX1 k) := by decide +kernel
abbrev cX1_init : ByteArray := prog_3_method_1_code
def yX1_init : MethodName := ⟨RX1, "<init>", "()V"⟩
abbrev cX1_add : ByteArray := prog_3_method_2_code
def yX1_add : MethodName := ⟨RX1, "add", "(IIII)V"⟩
def RX2 : String := "RateLimiter$Counts"
def TX2 : u_T := fun k => match k with
  | 0 => ("RateLimiter$Counts", "sentCost", "[I", true)
  | 1 => ("RateLimiter$Counts", "sentCount", "[I", true)
  | 2 => ("RateLimiter$Counts", "borrowedCost", "[I", true)
  | 3 => ("RateLimiter$Counts", "lentCost", "[I", true)
  | _ => ("RateLimiter$Counts", "droppedCount", "[I", true)
def tyX2 : Nat → FieldType := fun k => match k with
  | 0 => .array .int
  | 1 => .array .int
  | 2 => .array .int
  | 3 => .array .int
  | _ => .array .int
abbrev wsX20 : List Cond := u_ws RX2 TX2 5
theorem nmX2 : ∀ a, a < 5 → ∀ b, b < 5 → a ≠ b → (TX2 a).2.1 ≠ (TX2 b).2.1 := by decide +kernel
theorem tyX2_ok : ∀ k, k < 5 → parseFieldDescriptor (TX2 k).2.2.1 = some (tyX2 k) := by decide +kernel
abbrev cX2_init : ByteArray := prog_4_method_1_code
def yX2_init : MethodName := ⟨RX2, "<init>", "()V"⟩
abbrev cX2_begin : ByteArray := prog_4_method_2_code
def yX2_begin : MethodName := ⟨RX2, "begin", "()V"⟩
abbrev cX2_countSent : ByteArray := prog_4_method_4_code
def yX2_countSent : MethodName := ⟨RX2, "countSent", "(III)V"⟩
def RX3 : String := "RateLimiter$Log"
def TX3 : u_T := fun k => match k with
  | 0 => ("RateLimiter$Log", "count", "I", false)
  | 1 => ("RateLimiter$Log", "leaf", "[I", true)
  | 2 => ("RateLimiter$Log", "cost", "[I", true)
  | 3 => ("RateLimiter$Log", "lender", "[I", true)
  | _ => ("RateLimiter$Log", "time", "[I", true)
def tyX3 : Nat → FieldType := fun k => match k with
  | 0 => .int
  | 1 => .array .int
  | 2 => .array .int
  | 3 => .array .int
  | _ => .array .int
abbrev wsX30 : List Cond := u_ws RX3 TX3 5
theorem nmX3 : ∀ a, a < 5 → ∀ b, b < 5 → a ≠ b → (TX3 a).2.1 ≠ (TX3 b).2.1 := by decide +kernel
theorem tyX3_ok : ∀ k, k < 5 → parseFieldDescriptor (TX3 k).2.2.1 = some (tyX3 k) := by decide +kernel
abbrev cX3_init : ByteArray := prog_5_method_1_code
def yX3_init : MethodName := ⟨RX3, "<init>", "()V"⟩
abbrev cX3_add : ByteArray := prog_5_method_3_code
def yX3_add : MethodName := ⟨RX3, "add", "(IIII)V"⟩
abbrev cX3_putFirst : ByteArray := prog_5_method_4_code
def yX3_putFirst : MethodName := ⟨RX3, "putFirst", "([II)V"⟩
def RX4 : String := "RateLimiter$Queues"
def TX4 : u_T := fun k => match k with
  | 0 => ("RateLimiter$Queues", "length", "[I", true)
  | 1 => ("RateLimiter$Queues", "number", "[I", true)
  | 2 => ("RateLimiter$Queues", "cost", "[I", true)
  | 3 => ("RateLimiter$Queues", "since", "[I", true)
  | _ => ("RateLimiter$Queues", "nextNumber", "I", false)
def tyX4 : Nat → FieldType := fun k => match k with
  | 0 => .array .int
  | 1 => .array .int
  | 2 => .array .int
  | 3 => .array .int
  | _ => .int
abbrev wsX40 : List Cond := u_ws RX4 TX4 5
theorem nmX4 : ∀ a, a < 5 → ∀ b, b < 5 → a ≠ b → (TX4 a).2.1 ≠ (TX4 b).2.1 := by decide +kernel
theorem tyX4_ok : ∀ k, k < 5 → parseFieldDescriptor (TX4 k).2.2.1 = some (tyX4 k) := by decide +kernel
abbrev cX4_init : ByteArray := prog_6_method_1_code
def yX4_init : MethodName := ⟨RX4, "<init>", "()V"⟩
abbrev cX4_begin : ByteArray := prog_6_method_2_code
def yX4_begin : MethodName := ⟨RX4, "begin", "()V"⟩
abbrev cX4_removeFront : ByteArray := prog_6_method_6_code
def yX4_removeFront : MethodName := ⟨RX4, "removeFront", "(I)V"⟩
abbrev cX4_moveUp : ByteArray := prog_6_method_7_code
def yX4_moveUp : MethodName := ⟨RX4, "moveUp", "([II)V"⟩
def RX5 : String := "RateLimiter$Reader"
def TX5 : u_T := fun k => match k with
  | 0 => ("RateLimiter$Reader", "faultCode", "I", false)
  | 1 => ("RateLimiter$Reader", "faultPosition", "I", false)
  | 2 => ("RateLimiter$Reader", "draft", "LRateLimiter$Setup;", false)
  | 3 => ("RateLimiter$Reader", "token", "LRateLimiter$Scanner;", true)
  | 4 => ("RateLimiter$Reader", "expected", "I", false)
  | 5 => ("RateLimiter$Reader", "limitGiven", "Z", false)
  | 6 => ("RateLimiter$Reader", "nodeName", "J", false)
  | 7 => ("RateLimiter$Reader", "settingsGiven", "I", false)
  | 8 => ("RateLimiter$Reader", "setting", "I", false)
  | 9 => ("RateLimiter$Reader", "changeTime", "I", false)
  | _ => ("RateLimiter$Reader", "changeNode", "I", false)
def tyX5 : Nat → FieldType := fun k => match k with
  | 0 => .int
  | 1 => .int
  | 2 => .object "RateLimiter$Setup"
  | 3 => .object "RateLimiter$Scanner"
  | 4 => .int
  | 5 => .boolean
  | 6 => .long
  | 7 => .int
  | 8 => .int
  | 9 => .int
  | _ => .int
abbrev wsX50 : List Cond := u_ws RX5 TX5 11
theorem nmX5 : ∀ a, a < 11 → ∀ b, b < 11 → a ≠ b → (TX5 a).2.1 ≠ (TX5 b).2.1 := by decide +kernel
theorem tyX5_ok : ∀ k, k < 11 → parseFieldDescriptor (TX5 k).2.2.1 = some (tyX5 k) := by decide +kernel
abbrev cX5_init : ByteArray := prog_7_method_1_code
def yX5_init : MethodName := ⟨RX5, "<init>", "()V"⟩
abbrev cX5_read : ByteArray := prog_7_method_2_code
def yX5_read : MethodName := ⟨RX5, "read", "(LRateLimiter$Text;)V"⟩
abbrev cX5_begin : ByteArray := prog_7_method_3_code
def yX5_begin : MethodName := ⟨RX5, "begin", "()V"⟩
abbrev cX5_take : ByteArray := prog_7_method_4_code
def yX5_take : MethodName := ⟨RX5, "take", "()I"⟩
abbrev cX5_takeStatement : ByteArray := prog_7_method_5_code
def yX5_takeStatement : MethodName := ⟨RX5, "takeStatement", "()I"⟩
abbrev cX5_isName : ByteArray := prog_7_method_6_code
def yX5_isName : MethodName := ⟨RX5, "isName", "()Z"⟩
abbrev cX5_takeNodeName : ByteArray := prog_7_method_7_code
def yX5_takeNodeName : MethodName := ⟨RX5, "takeNodeName", "()I"⟩
abbrev cX5_takeIn : ByteArray := prog_7_method_8_code
def yX5_takeIn : MethodName := ⟨RX5, "takeIn", "()I"⟩
abbrev cX5_takeParentName : ByteArray := prog_7_method_9_code
def yX5_takeParentName : MethodName := ⟨RX5, "takeParentName", "()I"⟩
abbrev cX5_addNode : ByteArray := prog_7_method_10_code
def yX5_addNode : MethodName := ⟨RX5, "addNode", "(I)V"⟩
abbrev cX5_takeSetting : ByteArray := prog_7_method_11_code
def yX5_takeSetting : MethodName := ⟨RX5, "takeSetting", "()I"⟩
abbrev cX5_finishNode : ByteArray := prog_7_method_12_code
def yX5_finishNode : MethodName := ⟨RX5, "finishNode", "()V"⟩
abbrev cX5_takeSettingValue : ByteArray := prog_7_method_13_code
def yX5_takeSettingValue : MethodName := ⟨RX5, "takeSettingValue", "()I"⟩
abbrev cX5_numberFault : ByteArray := prog_7_method_14_code
def yX5_numberFault : MethodName := ⟨RX5, "numberFault", "(I)I"⟩
abbrev cX5_numberFault_ : ByteArray := prog_7_method_15_code
def yX5_numberFault_ : MethodName := ⟨RX5, "numberFault", "(II)I"⟩
abbrev cX5_takeLimit : ByteArray := prog_7_method_16_code
def yX5_takeLimit : MethodName := ⟨RX5, "takeLimit", "()I"⟩
abbrev cX5_takeAge : ByteArray := prog_7_method_17_code
def yX5_takeAge : MethodName := ⟨RX5, "takeAge", "()I"⟩
abbrev cX5_takeChangeTime : ByteArray := prog_7_method_18_code
def yX5_takeChangeTime : MethodName := ⟨RX5, "takeChangeTime", "()I"⟩
abbrev cX5_takeChangeName : ByteArray := prog_7_method_19_code
def yX5_takeChangeName : MethodName := ⟨RX5, "takeChangeName", "()I"⟩
abbrev cX5_takeChangeSetting : ByteArray := prog_7_method_20_code
def yX5_takeChangeSetting : MethodName := ⟨RX5, "takeChangeSetting", "()I"⟩
abbrev cX5_takeChangeValue : ByteArray := prog_7_method_21_code
def yX5_takeChangeValue : MethodName := ⟨RX5, "takeChangeValue", "()I"⟩
abbrev cX5_takeStatementEnd : ByteArray := prog_7_method_22_code
def yX5_takeStatementEnd : MethodName := ⟨RX5, "takeStatementEnd", "()I"⟩
def RX6 : String := "RateLimiter$Scanner"
def TX6 : u_T := fun k => match k with
  | 0 => ("RateLimiter$Scanner", "next", "I", false)
  | 1 => ("RateLimiter$Scanner", "kind", "I", false)
  | 2 => ("RateLimiter$Scanner", "start", "I", false)
  | 3 => ("RateLimiter$Scanner", "word", "J", false)
  | 4 => ("RateLimiter$Scanner", "keyword", "I", false)
  | _ => ("RateLimiter$Scanner", "number", "I", false)
def tyX6 : Nat → FieldType := fun k => match k with
  | 0 => .int
  | 1 => .int
  | 2 => .int
  | 3 => .long
  | 4 => .int
  | _ => .int
abbrev wsX60 : List Cond := u_ws RX6 TX6 6
theorem nmX6 : ∀ a, a < 6 → ∀ b, b < 6 → a ≠ b → (TX6 a).2.1 ≠ (TX6 b).2.1 := by decide +kernel
theorem tyX6_ok : ∀ k, k < 6 → parseFieldDescriptor (TX6 k).2.2.1 = some (tyX6 k) := by decide +kernel
abbrev cX6_init : ByteArray := prog_8_method_1_code
def yX6_init : MethodName := ⟨RX6, "<init>", "()V"⟩
abbrev cX6_begin : ByteArray := prog_8_method_2_code
def yX6_begin : MethodName := ⟨RX6, "begin", "()V"⟩
abbrev cX6_scan : ByteArray := prog_8_method_3_code
def yX6_scan : MethodName := ⟨RX6, "scan", "(LRateLimiter$Text;)V"⟩
abbrev cX6_skipSpaces : ByteArray := prog_8_method_4_code
def yX6_skipSpaces : MethodName := ⟨RX6, "skipSpaces", "(LRateLimiter$Text;)V"⟩
abbrev cX6_scanWord : ByteArray := prog_8_method_5_code
def yX6_scanWord : MethodName := ⟨RX6, "scanWord", "(LRateLimiter$Text;)V"⟩
abbrev cX6_scanNumber : ByteArray := prog_8_method_6_code
def yX6_scanNumber : MethodName := ⟨RX6, "scanNumber", "(LRateLimiter$Text;)V"⟩
abbrev cX6_isLetter : ByteArray := prog_8_method_7_code
def yX6_isLetter : MethodName := ⟨RX6, "isLetter", "(I)Z"⟩
abbrev cX6_isDigit : ByteArray := prog_8_method_8_code
def yX6_isDigit : MethodName := ⟨RX6, "isDigit", "(I)Z"⟩
def RX7 : String := "RateLimiter$Setup"
def TX7 : u_T := fun k => match k with
  | 0 => ("RateLimiter$Setup", "nodeCount", "I", false)
  | 1 => ("RateLimiter$Setup", "name", "[J", true)
  | 2 => ("RateLimiter$Setup", "parent", "[I", true)
  | 3 => ("RateLimiter$Setup", "depth", "[I", true)
  | 4 => ("RateLimiter$Setup", "childCount", "[I", true)
  | 5 => ("RateLimiter$Setup", "rate", "[I", true)
  | 6 => ("RateLimiter$Setup", "ceiling", "[I", true)
  | 7 => ("RateLimiter$Setup", "burst", "[I", true)
  | 8 => ("RateLimiter$Setup", "creditLimit", "[I", true)
  | 9 => ("RateLimiter$Setup", "weight", "[I", true)
  | 10 => ("RateLimiter$Setup", "priority", "[I", true)
  | 11 => ("RateLimiter$Setup", "alone", "[Z", true)
  | 12 => ("RateLimiter$Setup", "changes", "LRateLimiter$Changes;", true)
  | 13 => ("RateLimiter$Setup", "limit", "I", false)
  | _ => ("RateLimiter$Setup", "greatestAge", "I", false)
def tyX7 : Nat → FieldType := fun k => match k with
  | 0 => .int
  | 1 => .array .long
  | 2 => .array .int
  | 3 => .array .int
  | 4 => .array .int
  | 5 => .array .int
  | 6 => .array .int
  | 7 => .array .int
  | 8 => .array .int
  | 9 => .array .int
  | 10 => .array .int
  | 11 => .array .boolean
  | 12 => .object "RateLimiter$Changes"
  | 13 => .int
  | _ => .int
abbrev wsX70 : List Cond := u_ws RX7 TX7 15
theorem nmX7 : ∀ a, a < 15 → ∀ b, b < 15 → a ≠ b → (TX7 a).2.1 ≠ (TX7 b).2.1 := by decide +kernel
theorem tyX7_ok : ∀ k, k < 15 → parseFieldDescriptor (TX7 k).2.2.1 = some (tyX7 k) := by decide +kernel
abbrev cX7_init : ByteArray := prog_9_method_1_code
def yX7_init : MethodName := ⟨RX7, "<init>", "()V"⟩
abbrev cX7_clear : ByteArray := prog_9_method_2_code
def yX7_clear : MethodName := ⟨RX7, "clear", "()V"⟩
abbrev cX7_hasNode : ByteArray := prog_9_method_3_code
def yX7_hasNode : MethodName := ⟨RX7, "hasNode", "(I)Z"⟩
abbrev cX7_hasLeaf : ByteArray := prog_9_method_4_code
def yX7_hasLeaf : MethodName := ⟨RX7, "hasLeaf", "(I)Z"⟩
abbrev cX7_findNode : ByteArray := prog_9_method_5_code
def yX7_findNode : MethodName := ⟨RX7, "findNode", "(J)I"⟩
abbrev cX7_addNode : ByteArray := prog_9_method_6_code
def yX7_addNode : MethodName := ⟨RX7, "addNode", "(JI)V"⟩
abbrev cX7_row : ByteArray := prog_9_method_7_code
def yX7_row : MethodName := ⟨RX7, "row", "(I)[I"⟩
abbrev cX7_childOf : ByteArray := prog_9_method_8_code
def yX7_childOf : MethodName := ⟨RX7, "childOf", "(II)I"⟩
abbrev cX7_distance : ByteArray := prog_9_method_9_code
def yX7_distance : MethodName := ⟨RX7, "distance", "(II)I"⟩
def RX8 : String := "RateLimiter$State"
def TX8 : u_T := fun k => match k with
  | 0 => ("RateLimiter$State", "isStored", "Z", false)
  | 1 => ("RateLimiter$State", "time", "I", false)
  | 2 => ("RateLimiter$State", "rate", "[I", true)
  | 3 => ("RateLimiter$State", "ceiling", "[I", true)
  | 4 => ("RateLimiter$State", "weight", "[I", true)
  | 5 => ("RateLimiter$State", "accounts", "LRateLimiter$Accounts;", true)
  | 6 => ("RateLimiter$State", "queues", "LRateLimiter$Queues;", true)
  | 7 => ("RateLimiter$State", "counts", "LRateLimiter$Counts;", true)
  | _ => ("RateLimiter$State", "log", "LRateLimiter$Log;", true)
def tyX8 : Nat → FieldType := fun k => match k with
  | 0 => .boolean
  | 1 => .int
  | 2 => .array .int
  | 3 => .array .int
  | 4 => .array .int
  | 5 => .object "RateLimiter$Accounts"
  | 6 => .object "RateLimiter$Queues"
  | 7 => .object "RateLimiter$Counts"
  | _ => .object "RateLimiter$Log"
abbrev wsX80 : List Cond := u_ws RX8 TX8 9
theorem nmX8 : ∀ a, a < 9 → ∀ b, b < 9 → a ≠ b → (TX8 a).2.1 ≠ (TX8 b).2.1 := by decide +kernel
theorem tyX8_ok : ∀ k, k < 9 → parseFieldDescriptor (TX8 k).2.2.1 = some (tyX8 k) := by decide +kernel
abbrev cX8_init : ByteArray := prog_10_method_1_code
def yX8_init : MethodName := ⟨RX8, "<init>", "()V"⟩
abbrev cX8_begin : ByteArray := prog_10_method_2_code
def yX8_begin : MethodName := ⟨RX8, "begin", "(LRateLimiter$Setup;)V"⟩
abbrev cX8_row : ByteArray := prog_10_method_4_code
def yX8_row : MethodName := ⟨RX8, "row", "(I)[I"⟩
abbrev cX8_childrenRate : ByteArray := prog_10_method_5_code
def yX8_childrenRate : MethodName := ⟨RX8, "childrenRate", "(LRateLimiter$Setup;I)I"⟩
abbrev cX8_leastCeiling : ByteArray := prog_10_method_6_code
def yX8_leastCeiling : MethodName := ⟨RX8, "leastCeiling", "(LRateLimiter$Setup;I)I"⟩
abbrev cX8_send : ByteArray := prog_10_method_7_code
def yX8_send : MethodName := ⟨RX8, "send", "(LRateLimiter$Setup;III)V"⟩
abbrev cX8_ticksUntilLender : ByteArray := prog_10_method_9_code
def yX8_ticksUntilLender : MethodName := ⟨RX8, "ticksUntilLender", "(LRateLimiter$Setup;II)I"⟩
abbrev cX8_ticksUntil : ByteArray := prog_10_method_10_code
def yX8_ticksUntil : MethodName := ⟨RX8, "ticksUntil", "(IIII)I"⟩
abbrev cX8_makeTicks : ByteArray := prog_10_method_11_code
def yX8_makeTicks : MethodName := ⟨RX8, "makeTicks", "(LRateLimiter$Setup;I)I"⟩
abbrev cX8_makeTick : ByteArray := prog_10_method_12_code
def yX8_makeTick : MethodName := ⟨RX8, "makeTick", "(LRateLimiter$Setup;)I"⟩
abbrev cX8_makeChanges : ByteArray := prog_10_method_13_code
def yX8_makeChanges : MethodName := ⟨RX8, "makeChanges", "(LRateLimiter$Setup;)V"⟩
abbrev cX8_dropOld : ByteArray := prog_10_method_14_code
def yX8_dropOld : MethodName := ⟨RX8, "dropOld", "(LRateLimiter$Setup;)V"⟩
abbrev cX8_isFrontOld : ByteArray := prog_10_method_15_code
def yX8_isFrontOld : MethodName := ⟨RX8, "isFrontOld", "(II)Z"⟩
abbrev cX8_dispatch : ByteArray := prog_10_method_16_code
def yX8_dispatch : MethodName := ⟨RX8, "dispatch", "(LRateLimiter$Setup;)I"⟩
abbrev cX8_chooseLeaf : ByteArray := prog_10_method_17_code
def yX8_chooseLeaf : MethodName := ⟨RX8, "chooseLeaf", "(LRateLimiter$Setup;)I"⟩
abbrev cX8_frontDistance : ByteArray := prog_10_method_18_code
def yX8_frontDistance : MethodName := ⟨RX8, "frontDistance", "(LRateLimiter$Setup;I)I"⟩
abbrev cX8_precedes : ByteArray := prog_10_method_19_code
def yX8_precedes : MethodName := ⟨RX8, "precedes", "(LRateLimiter$Setup;II)Z"⟩
abbrev cX8_compareServed : ByteArray := prog_10_method_20_code
def yX8_compareServed : MethodName := ⟨RX8, "compareServed", "(II)I"⟩
def RX9 : String := "RateLimiter$Text"
def TX9 : u_T := fun k => match k with
  | 0 => ("RateLimiter$Text", "bytes", "[B", true)
  | _ => ("RateLimiter$Text", "length", "I", false)
def tyX9 : Nat → FieldType := fun k => match k with
  | 0 => .array .byte
  | _ => .int
abbrev wsX90 : List Cond := u_ws RX9 TX9 2
theorem nmX9 : ∀ a, a < 2 → ∀ b, b < 2 → a ≠ b → (TX9 a).2.1 ≠ (TX9 b).2.1 := by decide +kernel
theorem tyX9_ok : ∀ k, k < 2 → parseFieldDescriptor (TX9 k).2.2.1 = some (tyX9 k) := by decide +kernel
abbrev cX9_init : ByteArray := prog_11_method_1_code
def yX9_init : MethodName := ⟨RX9, "<init>", "()V"⟩
abbrev cX9_append : ByteArray := prog_11_method_2_code
def yX9_append : MethodName := ⟨RX9, "append", "(I)V"⟩
abbrev cX9_byteAt : ByteArray := prog_11_method_3_code
def yX9_byteAt : MethodName := ⟨RX9, "byteAt", "(I)I"⟩
def RX10 : String := "RateLimiter$Writer"
def TX10 : u_T := fun k => match k with
  | 0 => ("RateLimiter$Writer", "length", "I", false)
  | 1 => ("RateLimiter$Writer", "found", "I", false)
  | 2 => ("RateLimiter$Writer", "wanted", "I", false)
  | _ => ("RateLimiter$Writer", "needsSpace", "Z", false)
def tyX10 : Nat → FieldType := fun k => match k with
  | 0 => .int
  | 1 => .int
  | 2 => .int
  | _ => .boolean
abbrev wsX100 : List Cond := u_ws RX10 TX10 4
theorem nmX10 : ∀ a, a < 4 → ∀ b, b < 4 → a ≠ b → (TX10 a).2.1 ≠ (TX10 b).2.1 := by decide +kernel
theorem tyX10_ok : ∀ k, k < 4 → parseFieldDescriptor (TX10 k).2.2.1 = some (tyX10 k) := by decide +kernel
abbrev cX10_init : ByteArray := prog_12_method_1_code
def yX10_init : MethodName := ⟨RX10, "<init>", "()V"⟩
def RX11 : String := "RateLimiter"
def TX11 : u_T := fun k => match k with
  | 0 => ("RateLimiter", "text", "LRateLimiter$Text;", true)
  | 1 => ("RateLimiter", "reader", "LRateLimiter$Reader;", true)
  | 2 => ("RateLimiter", "writer", "LRateLimiter$Writer;", true)
  | 3 => ("RateLimiter", "setup", "LRateLimiter$Setup;", false)
  | 4 => ("RateLimiter", "state", "LRateLimiter$State;", true)
  | 5 => ("RateLimiter", "thought", "LRateLimiter$State;", true)
  | 6 => ("RateLimiter", "firstSnapshot", "LRateLimiter$State;", true)
  | _ => ("RateLimiter", "secondSnapshot", "LRateLimiter$State;", true)
def tyX11 : Nat → FieldType := fun k => match k with
  | 0 => .object "RateLimiter$Text"
  | 1 => .object "RateLimiter$Reader"
  | 2 => .object "RateLimiter$Writer"
  | 3 => .object "RateLimiter$Setup"
  | 4 => .object "RateLimiter$State"
  | 5 => .object "RateLimiter$State"
  | 6 => .object "RateLimiter$State"
  | _ => .object "RateLimiter$State"
abbrev wsX110 : List Cond := u_ws RX11 TX11 8
theorem nmX11 : ∀ a, a < 8 → ∀ b, b < 8 → a ≠ b → (TX11 a).2.1 ≠ (TX11 b).2.1 := by decide +kernel
theorem tyX11_ok : ∀ k, k < 8 → parseFieldDescriptor (TX11 k).2.2.1 = some (tyX11 k) := by decide +kernel
abbrev cX11_init : ByteArray := prog_1_method_1_code
def yX11_init : MethodName := ⟨RX11, "<init>", "()V"⟩
abbrev cX11_feed : ByteArray := prog_1_method_2_code
def yX11_feed : MethodName := ⟨RX11, "feed", "(IIIII)I"⟩
abbrev cX11_truncate : ByteArray := prog_1_method_3_code
def yX11_truncate : MethodName := ⟨RX11, "truncate", "(I)I"⟩
abbrev cX11_load : ByteArray := prog_1_method_4_code
def yX11_load : MethodName := ⟨RX11, "load", "()I"⟩
abbrev cX11_faultCode : ByteArray := prog_1_method_5_code
def yX11_faultCode : MethodName := ⟨RX11, "faultCode", "()I"⟩
abbrev cX11_faultPosition : ByteArray := prog_1_method_6_code
def yX11_faultPosition : MethodName := ⟨RX11, "faultPosition", "()I"⟩
abbrev cX11_nodeCount : ByteArray := prog_1_method_7_code
def yX11_nodeCount : MethodName := ⟨RX11, "nodeCount", "()I"⟩
abbrev cX11_nameLetter : ByteArray := prog_1_method_8_code
def yX11_nameLetter : MethodName := ⟨RX11, "nameLetter", "(II)I"⟩
abbrev cX11_parent : ByteArray := prog_1_method_9_code
def yX11_parent : MethodName := ⟨RX11, "parent", "(I)I"⟩
abbrev cX11_child : ByteArray := prog_1_method_10_code
def yX11_child : MethodName := ⟨RX11, "child", "(II)I"⟩
abbrev cX11_isLeaf : ByteArray := prog_1_method_11_code
def yX11_isLeaf : MethodName := ⟨RX11, "isLeaf", "(I)Z"⟩
abbrev cX11_depth : ByteArray := prog_1_method_12_code
def yX11_depth : MethodName := ⟨RX11, "depth", "(I)I"⟩
abbrev cX11_rate : ByteArray := prog_1_method_13_code
def yX11_rate : MethodName := ⟨RX11, "rate", "(I)I"⟩
abbrev cX11_ceiling : ByteArray := prog_1_method_14_code
def yX11_ceiling : MethodName := ⟨RX11, "ceiling", "(I)I"⟩
abbrev cX11_burst : ByteArray := prog_1_method_15_code
def yX11_burst : MethodName := ⟨RX11, "burst", "(I)I"⟩
abbrev cX11_creditLimit : ByteArray := prog_1_method_16_code
def yX11_creditLimit : MethodName := ⟨RX11, "creditLimit", "(I)I"⟩
abbrev cX11_weight : ByteArray := prog_1_method_17_code
def yX11_weight : MethodName := ⟨RX11, "weight", "(I)I"⟩
abbrev cX11_priority : ByteArray := prog_1_method_18_code
def yX11_priority : MethodName := ⟨RX11, "priority", "(I)I"⟩
abbrev cX11_mayBorrow : ByteArray := prog_1_method_19_code
def yX11_mayBorrow : MethodName := ⟨RX11, "mayBorrow", "(I)Z"⟩
abbrev cX11_isOversubscribed : ByteArray := prog_1_method_20_code
def yX11_isOversubscribed : MethodName := ⟨RX11, "isOversubscribed", "(I)Z"⟩
abbrev cX11_pathCeiling : ByteArray := prog_1_method_21_code
def yX11_pathCeiling : MethodName := ⟨RX11, "pathCeiling", "(I)I"⟩
abbrev cX11_time : ByteArray := prog_1_method_22_code
def yX11_time : MethodName := ⟨RX11, "time", "()I"⟩
abbrev cX11_tokens : ByteArray := prog_1_method_23_code
def yX11_tokens : MethodName := ⟨RX11, "tokens", "(I)I"⟩
abbrev cX11_credit : ByteArray := prog_1_method_24_code
def yX11_credit : MethodName := ⟨RX11, "credit", "(I)I"⟩
abbrev cX11_headroom : ByteArray := prog_1_method_25_code
def yX11_headroom : MethodName := ⟨RX11, "headroom", "(I)I"⟩
abbrev cX11_lender : ByteArray := prog_1_method_26_code
def yX11_lender : MethodName := ⟨RX11, "lender", "(II)I"⟩
abbrev cX11_greatestCost : ByteArray := prog_1_method_27_code
def yX11_greatestCost : MethodName := ⟨RX11, "greatestCost", "(I)I"⟩
abbrev cX11_acquire : ByteArray := prog_1_method_28_code
def yX11_acquire : MethodName := ⟨RX11, "acquire", "(II)I"⟩
abbrev cX11_waitTime : ByteArray := prog_1_method_30_code
def yX11_waitTime : MethodName := ⟨RX11, "waitTime", "(II)I"⟩
abbrev cX11_repeats : ByteArray := prog_1_method_31_code
def yX11_repeats : MethodName := ⟨RX11, "repeats", "(II)I"⟩
abbrev cX11_refusal : ByteArray := prog_1_method_32_code
def yX11_refusal : MethodName := ⟨RX11, "refusal", "(II)I"⟩
abbrev cX11_blockingNode : ByteArray := prog_1_method_33_code
def yX11_blockingNode : MethodName := ⟨RX11, "blockingNode", "(II)I"⟩
abbrev cX11_queueLength : ByteArray := prog_1_method_34_code
def yX11_queueLength : MethodName := ⟨RX11, "queueLength", "(I)I"⟩
abbrev cX11_nextLeaf : ByteArray := prog_1_method_35_code
def yX11_nextLeaf : MethodName := ⟨RX11, "nextLeaf", "()I"⟩
abbrev cX11_advance : ByteArray := prog_1_method_40_code
def yX11_advance : MethodName := ⟨RX11, "advance", "(I)I"⟩
abbrev cX11_sentCost : ByteArray := prog_1_method_43_code
def yX11_sentCost : MethodName := ⟨RX11, "sentCost", "(I)I"⟩
abbrev cX11_sentCount : ByteArray := prog_1_method_44_code
def yX11_sentCount : MethodName := ⟨RX11, "sentCount", "(I)I"⟩
abbrev cX11_borrowedCost : ByteArray := prog_1_method_45_code
def yX11_borrowedCost : MethodName := ⟨RX11, "borrowedCost", "(I)I"⟩
abbrev cX11_lentCost : ByteArray := prog_1_method_46_code
def yX11_lentCost : MethodName := ⟨RX11, "lentCost", "(I)I"⟩
abbrev cX11_droppedCount : ByteArray := prog_1_method_47_code
def yX11_droppedCount : MethodName := ⟨RX11, "droppedCount", "(I)I"⟩
abbrev cX11_fairness : ByteArray := prog_1_method_48_code
def yX11_fairness : MethodName := ⟨RX11, "fairness", "()I"⟩
abbrev cX11_mostServed : ByteArray := prog_1_method_50_code
def yX11_mostServed : MethodName := ⟨RX11, "mostServed", "()I"⟩
abbrev cX11_loggedLeaf : ByteArray := prog_1_method_53_code
def yX11_loggedLeaf : MethodName := ⟨RX11, "loggedLeaf", "(I)I"⟩
abbrev cX11_loggedCost : ByteArray := prog_1_method_54_code
def yX11_loggedCost : MethodName := ⟨RX11, "loggedCost", "(I)I"⟩
abbrev cX11_loggedLender : ByteArray := prog_1_method_55_code
def yX11_loggedLender : MethodName := ⟨RX11, "loggedLender", "(I)I"⟩
abbrev cX11_loggedTime : ByteArray := prog_1_method_56_code
def yX11_loggedTime : MethodName := ⟨RX11, "loggedTime", "(I)I"⟩
abbrev cX11_setRate : ByteArray := prog_1_method_60_code
def yX11_setRate : MethodName := ⟨RX11, "setRate", "(II)I"⟩
abbrev cX11_isRequest : ByteArray := prog_1_method_66_code
def yX11_isRequest : MethodName := ⟨RX11, "isRequest", "(II)Z"⟩
abbrev cX11_canAdvance : ByteArray := prog_1_method_67_code
def yX11_canAdvance : MethodName := ⟨RX11, "canAdvance", "(I)Z"⟩
abbrev cX11_logEntry : ByteArray := prog_1_method_69_code
def yX11_logEntry : MethodName := ⟨RX11, "logEntry", "(I)I"⟩
abbrev cX11_change : ByteArray := prog_1_method_70_code
def yX11_change : MethodName := ⟨RX11, "change", "(III)I"⟩
abbrev cX11_isInRange : ByteArray := prog_1_method_72_code
def yX11_isInRange : MethodName := ⟨RX11, "isInRange", "(II)Z"⟩
abbrev cX11_quotient : ByteArray := prog_1_method_73_code
def yX11_quotient : MethodName := ⟨RX11, "quotient", "(JJ)J"⟩
abbrev cX11_copyRow : ByteArray := prog_1_method_74_code
def yX11_copyRow : MethodName := ⟨RX11, "copyRow", "([I[I)V"⟩
abbrev cX11_clearRow : ByteArray := prog_1_method_75_code
def yX11_clearRow : MethodName := ⟨RX11, "clearRow", "([I)V"⟩
abbrev cX11_keywordText : ByteArray := prog_1_method_76_code
def yX11_keywordText : MethodName := ⟨RX11, "keywordText", "(I)Ljava/lang/String;"⟩
abbrev cX11_withLetter : ByteArray := prog_1_method_77_code
def yX11_withLetter : MethodName := ⟨RX11, "withLetter", "(JII)J"⟩
abbrev cX11_letterOf : ByteArray := prog_1_method_78_code
def yX11_letterOf : MethodName := ⟨RX11, "letterOf", "(JI)I"⟩
abbrev cX11_keywordOf : ByteArray := prog_1_method_79_code
def yX11_keywordOf : MethodName := ⟨RX11, "keywordOf", "(J)I"⟩
def RX12 : String := "RateLimiterLaw$Tree"
def TX12 : u_T := fun k => match k with
  | 0 => ("RateLimiterLaw$Tree", "n", "I", true)
  | 1 => ("RateLimiterLaw$Tree", "limit", "I", true)
  | 2 => ("RateLimiterLaw$Tree", "age", "I", true)
  | 3 => ("RateLimiterLaw$Tree", "parent", "[I", true)
  | 4 => ("RateLimiterLaw$Tree", "rate", "[I", true)
  | 5 => ("RateLimiterLaw$Tree", "ceiling", "[I", true)
  | 6 => ("RateLimiterLaw$Tree", "burst", "[I", true)
  | 7 => ("RateLimiterLaw$Tree", "credits", "[I", true)
  | 8 => ("RateLimiterLaw$Tree", "weight", "[I", true)
  | 9 => ("RateLimiterLaw$Tree", "priority", "[I", true)
  | 10 => ("RateLimiterLaw$Tree", "alone", "[Z", true)
  | 11 => ("RateLimiterLaw$Tree", "tokens", "[I", true)
  | 12 => ("RateLimiterLaw$Tree", "credit", "[I", true)
  | 13 => ("RateLimiterLaw$Tree", "head", "[I", true)
  | 14 => ("RateLimiterLaw$Tree", "sent", "[I", true)
  | 15 => ("RateLimiterLaw$Tree", "count", "[I", true)
  | 16 => ("RateLimiterLaw$Tree", "borrowed", "[I", true)
  | 17 => ("RateLimiterLaw$Tree", "lent", "[I", true)
  | 18 => ("RateLimiterLaw$Tree", "dropped", "[I", true)
  | 19 => ("RateLimiterLaw$Tree", "queues", "Ljava/util/ArrayList;", true)
  | 20 => ("RateLimiterLaw$Tree", "time", "I", false)
  | 21 => ("RateLimiterLaw$Tree", "next", "I", false)
  | 22 => ("RateLimiterLaw$Tree", "timed", "I", false)
  | 23 => ("RateLimiterLaw$Tree", "whose", "I", false)
  | _ => ("RateLimiterLaw$Tree", "becomes", "I", false)
def tyX12 : Nat → FieldType := fun k => match k with
  | 0 => .int
  | 1 => .int
  | 2 => .int
  | 3 => .array .int
  | 4 => .array .int
  | 5 => .array .int
  | 6 => .array .int
  | 7 => .array .int
  | 8 => .array .int
  | 9 => .array .int
  | 10 => .array .boolean
  | 11 => .array .int
  | 12 => .array .int
  | 13 => .array .int
  | 14 => .array .int
  | 15 => .array .int
  | 16 => .array .int
  | 17 => .array .int
  | 18 => .array .int
  | 19 => .object "java/util/ArrayList"
  | 20 => .int
  | 21 => .int
  | 22 => .int
  | 23 => .int
  | _ => .int
abbrev wsX120 : List Cond := u_ws RX12 TX12 25
theorem nmX12 : ∀ a, a < 25 → ∀ b, b < 25 → a ≠ b → (TX12 a).2.1 ≠ (TX12 b).2.1 := by decide +kernel
theorem tyX12_ok : ∀ k, k < 25 → parseFieldDescriptor (TX12 k).2.2.1 = some (tyX12 k) := by decide +kernel
abbrev cX12_init : ByteArray := prog_14_method_1_code
def yX12_init : MethodName := ⟨RX12, "<init>", "([I)V"⟩
abbrev cX12_isLeaf : ByteArray := prog_14_method_2_code
def yX12_isLeaf : MethodName := ⟨RX12, "isLeaf", "(I)Z"⟩
abbrev cX12_steps : ByteArray := prog_14_method_3_code
def yX12_steps : MethodName := ⟨RX12, "steps", "(II)I"⟩
abbrev cX12_lender : ByteArray := prog_14_method_4_code
def yX12_lender : MethodName := ⟨RX12, "lender", "(II)I"⟩
abbrev cX12_send : ByteArray := prog_14_method_5_code
def yX12_send : MethodName := ⟨RX12, "send", "(II)V"⟩
abbrev cX12_refill : ByteArray := prog_14_method_6_code
def yX12_refill : MethodName := ⟨RX12, "refill", "()V"⟩
abbrev cX12_first : ByteArray := prog_14_method_7_code
def yX12_first : MethodName := ⟨RX12, "first", "()I"⟩
abbrev cX12_isAhead : ByteArray := prog_14_method_8_code
def yX12_isAhead : MethodName := ⟨RX12, "isAhead", "(II)Z"⟩
abbrev cX12_tick : ByteArray := prog_14_method_9_code
def yX12_tick : MethodName := ⟨RX12, "tick", "()I"⟩
abbrev cX12_text : ByteArray := prog_14_method_11_code
def yX12_text : MethodName := ⟨RX12, "text", "()Ljava/lang/String;"⟩
abbrev cX12_anyLeaf : ByteArray := prog_14_method_12_code
def yX12_anyLeaf : MethodName := ⟨RX12, "anyLeaf", "([I)I"⟩
def RX13 : String := "RateLimiterModel"
def TX13 : u_T := fun k => match k with
  | _ => ("", "", "", false)
def tyX13 : Nat → FieldType := fun k => match k with
  | _ => .int
abbrev wsX130 : List Cond := u_ws RX13 TX13 0
theorem nmX13 : ∀ a, a < 0 → ∀ b, b < 0 → a ≠ b → (TX13 a).2.1 ≠ (TX13 b).2.1 := by decide +kernel
theorem tyX13_ok : ∀ k, k < 0 → parseFieldDescriptor (TX13 k).2.2.1 = some (tyX13 k) := by decide +kernel
def RJx145de : String := "java/io/Serializable"
def TJx145de : u_T := fun k => match k with
  | _ => ("", "", "", false)
def tyJx145de : Nat → FieldType := fun k => match k with
  | _ => .int
abbrev wsJx145de0 : List Cond := u_ws RJx145de TJx145de 0
theorem nmJx145de : ∀ a, a < 0 → ∀ b, b < 0 → a ≠ b → (TJx145de a).2.1 ≠ (TJx145de b).2.1 := by decide +kernel
theorem tyJx145de_ok : ∀ k, k < 0 → parseFieldDescriptor (TJx145de k).2.2.1 = some (tyJx145de k) := by decide +kernel
def RJ5 : String := "java/lang/AbstractStringBuilder"
def TJ5 : u_T := fun k => match k with
  | _ => ("", "", "", false)
def tyJ5 : Nat → FieldType := fun k => match k with
  | _ => .int
abbrev wsJ50 : List Cond := u_ws RJ5 TJ5 0
theorem nmJ5 : ∀ a, a < 0 → ∀ b, b < 0 → a ≠ b → (TJ5 a).2.1 ≠ (TJ5 b).2.1 := by decide +kernel
theorem tyJ5_ok : ∀ k, k < 0 → parseFieldDescriptor (TJ5 k).2.2.1 = some (tyJ5 k) := by decide +kernel
abbrev cJ5_init_d00df : ByteArray := prog_17_method_2_code
def yJ5_init_d00df : MethodName := ⟨RJ5, "<init>", "(I)V"⟩
abbrev cJ5_length_8abf5 : ByteArray := prog_17_method_6_code
def yJ5_length_8abf5 : MethodName := ⟨RJ5, "length", "()I"⟩
abbrev cJ5_ensureCapacityInternal_d00df : ByteArray := prog_17_method_9_code
def yJ5_ensureCapacityInternal_d00df : MethodName := ⟨RJ5, "ensureCapacityInternal", "(I)V"⟩
abbrev cJ5_newCapacity_0f7a4 : ByteArray := prog_17_method_10_code
def yJ5_newCapacity_0f7a4 : MethodName := ⟨RJ5, "newCapacity", "(I)I"⟩
abbrev cJ5_inflate_da8c8 : ByteArray := prog_17_method_11_code
def yJ5_inflate_da8c8 : MethodName := ⟨RJ5, "inflate", "()V"⟩
abbrev cJ5_append_cf1ce : ByteArray := prog_17_method_22_code
def yJ5_append_cf1ce : MethodName := ⟨RJ5, "append", "(Ljava/lang/String;)Ljava/lang/AbstractStringBuilder;"⟩
abbrev cJ5_appendNull_278bc : ByteArray := prog_17_method_26_code
def yJ5_appendNull_278bc : MethodName := ⟨RJ5, "appendNull", "()Ljava/lang/AbstractStringBuilder;"⟩
abbrev cJ5_append_3fe6f : ByteArray := prog_17_method_31_code
def yJ5_append_3fe6f : MethodName := ⟨RJ5, "append", "(C)Ljava/lang/AbstractStringBuilder;"⟩
abbrev cJ5_append_c97b9 : ByteArray := prog_17_method_32_code
def yJ5_append_c97b9 : MethodName := ⟨RJ5, "append", "(I)Ljava/lang/AbstractStringBuilder;"⟩
abbrev cJ5_getValue_6d5f1 : ByteArray := prog_17_method_64_code
def yJ5_getValue_6d5f1 : MethodName := ⟨RJ5, "getValue", "()[B"⟩
abbrev cJ5_isLatin1_aae02 : ByteArray := prog_17_method_68_code
def yJ5_isLatin1_aae02 : MethodName := ⟨RJ5, "isLatin1", "()Z"⟩
abbrev cJ5_inflateIfNeededFor_a7421 : ByteArray := prog_17_method_71_code
def yJ5_inflateIfNeededFor_a7421 : MethodName := ⟨RJ5, "inflateIfNeededFor", "(Ljava/lang/String;)V"⟩
abbrev cJ5_putStringAt_47b60 : ByteArray := prog_17_method_73_code
def yJ5_putStringAt_47b60 : MethodName := ⟨RJ5, "putStringAt", "(ILjava/lang/String;)V"⟩
def RJx2cfe8 : String := "java/lang/Appendable"
def TJx2cfe8 : u_T := fun k => match k with
  | _ => ("", "", "", false)
def tyJx2cfe8 : Nat → FieldType := fun k => match k with
  | _ => .int
abbrev wsJx2cfe80 : List Cond := u_ws RJx2cfe8 TJx2cfe8 0
theorem nmJx2cfe8 : ∀ a, a < 0 → ∀ b, b < 0 → a ≠ b → (TJx2cfe8 a).2.1 ≠ (TJx2cfe8 b).2.1 := by decide +kernel
theorem tyJx2cfe8_ok : ∀ k, k < 0 → parseFieldDescriptor (TJx2cfe8 k).2.2.1 = some (tyJx2cfe8 k) := by decide +kernel
def RJx9f9b0 : String := "java/lang/CharSequence"
def TJx9f9b0 : u_T := fun k => match k with
  | _ => ("", "", "", false)
def tyJx9f9b0 : Nat → FieldType := fun k => match k with
  | _ => .int
abbrev wsJx9f9b00 : List Cond := u_ws RJx9f9b0 TJx9f9b0 0
theorem nmJx9f9b0 : ∀ a, a < 0 → ∀ b, b < 0 → a ≠ b → (TJx9f9b0 a).2.1 ≠ (TJx9f9b0 b).2.1 := by decide +kernel
theorem tyJx9f9b0_ok : ∀ k, k < 0 → parseFieldDescriptor (TJx9f9b0 k).2.2.1 = some (tyJx9f9b0 k) := by decide +kernel
def RJx8e188 : String := "java/lang/Cloneable"
def TJx8e188 : u_T := fun k => match k with
  | _ => ("", "", "", false)
def tyJx8e188 : Nat → FieldType := fun k => match k with
  | _ => .int
abbrev wsJx8e1880 : List Cond := u_ws RJx8e188 TJx8e188 0
theorem nmJx8e188 : ∀ a, a < 0 → ∀ b, b < 0 → a ≠ b → (TJx8e188 a).2.1 ≠ (TJx8e188 b).2.1 := by decide +kernel
theorem tyJx8e188_ok : ∀ k, k < 0 → parseFieldDescriptor (TJx8e188 k).2.2.1 = some (tyJx8e188 k) := by decide +kernel
def RJxb160c : String := "java/lang/Comparable"
def TJxb160c : u_T := fun k => match k with
  | _ => ("", "", "", false)
def tyJxb160c : Nat → FieldType := fun k => match k with
  | _ => .int
abbrev wsJxb160c0 : List Cond := u_ws RJxb160c TJxb160c 0
theorem nmJxb160c : ∀ a, a < 0 → ∀ b, b < 0 → a ≠ b → (TJxb160c a).2.1 ≠ (TJxb160c b).2.1 := by decide +kernel
theorem tyJxb160c_ok : ∀ k, k < 0 → parseFieldDescriptor (TJxb160c k).2.2.1 = some (tyJxb160c k) := by decide +kernel
def RJ6 : String := "java/lang/Integer"
def TJ6 : u_T := fun k => match k with
  | _ => ("", "", "", false)
def tyJ6 : Nat → FieldType := fun k => match k with
  | _ => .int
abbrev wsJ60 : List Cond := u_ws RJ6 TJ6 0
theorem nmJ6 : ∀ a, a < 0 → ∀ b, b < 0 → a ≠ b → (TJ6 a).2.1 ≠ (TJ6 b).2.1 := by decide +kernel
theorem tyJ6_ok : ∀ k, k < 0 → parseFieldDescriptor (TJ6 k).2.2.1 = some (tyJ6 k) := by decide +kernel
abbrev cJ6_getChars_ba4f3 : ByteArray := prog_22_method_12_code
def yJ6_getChars_ba4f3 : MethodName := ⟨RJ6, "getChars", "(II[B)I"⟩
abbrev cJ6_stringSize_0f7a4 : ByteArray := prog_22_method_13_code
def yJ6_stringSize_0f7a4 : MethodName := ⟨RJ6, "stringSize", "(I)I"⟩
def RJxab1ab : String := "java/lang/Iterable"
def TJxab1ab : u_T := fun k => match k with
  | _ => ("", "", "", false)
def tyJxab1ab : Nat → FieldType := fun k => match k with
  | _ => .int
abbrev wsJxab1ab0 : List Cond := u_ws RJxab1ab TJxab1ab 0
theorem nmJxab1ab : ∀ a, a < 0 → ∀ b, b < 0 → a ≠ b → (TJxab1ab a).2.1 ≠ (TJxab1ab b).2.1 := by decide +kernel
theorem tyJxab1ab_ok : ∀ k, k < 0 → parseFieldDescriptor (TJxab1ab k).2.2.1 = some (tyJxab1ab k) := by decide +kernel
def RJ13 : String := "java/lang/Long"
def TJ13 : u_T := fun k => match k with
  | _ => ("", "", "", false)
def tyJ13 : Nat → FieldType := fun k => match k with
  | _ => .int
abbrev wsJ130 : List Cond := u_ws RJ13 TJ13 0
theorem nmJ13 : ∀ a, a < 0 → ∀ b, b < 0 → a ≠ b → (TJ13 a).2.1 ≠ (TJ13 b).2.1 := by decide +kernel
theorem tyJ13_ok : ∀ k, k < 0 → parseFieldDescriptor (TJ13 k).2.2.1 = some (tyJ13 k) := by decide +kernel
abbrev cJ13_compare_74951 : ByteArray := prog_24_method_42_code
def yJ13_compare_74951 : MethodName := ⟨RJ13, "compare", "(JJ)I"⟩
def RJ9 : String := "java/lang/Math"
def TJ9 : u_T := fun k => match k with
  | _ => ("", "", "", false)
def tyJ9 : Nat → FieldType := fun k => match k with
  | _ => .int
abbrev wsJ90 : List Cond := u_ws RJ9 TJ9 0
theorem nmJ9 : ∀ a, a < 0 → ∀ b, b < 0 → a ≠ b → (TJ9 a).2.1 ≠ (TJ9 b).2.1 := by decide +kernel
theorem tyJ9_ok : ∀ k, k < 0 → parseFieldDescriptor (TJ9 k).2.2.1 = some (tyJ9 k) := by decide +kernel
abbrev cJ9_max_7cf53 : ByteArray := prog_25_method_65_code
def yJ9_max_7cf53 : MethodName := ⟨RJ9, "max", "(II)I"⟩
abbrev cJ9_min_7cf53 : ByteArray := prog_25_method_69_code
def yJ9_min_7cf53 : MethodName := ⟨RJ9, "min", "(II)I"⟩
def RJxd2413 : String := "java/lang/Number"
def TJxd2413 : u_T := fun k => match k with
  | _ => ("", "", "", false)
def tyJxd2413 : Nat → FieldType := fun k => match k with
  | _ => .int
abbrev wsJxd24130 : List Cond := u_ws RJxd2413 TJxd2413 0
theorem nmJxd2413 : ∀ a, a < 0 → ∀ b, b < 0 → a ≠ b → (TJxd2413 a).2.1 ≠ (TJxd2413 b).2.1 := by decide +kernel
theorem tyJxd2413_ok : ∀ k, k < 0 → parseFieldDescriptor (TJxd2413 k).2.2.1 = some (tyJxd2413 k) := by decide +kernel
def RJ0 : String := "java/lang/String"
def TJ0 : u_T := fun k => match k with
  | 0 => ("java/lang/String", "value", "[B", true)
  | 1 => ("java/lang/String", "coder", "B", true)
  | 2 => ("java/lang/String", "hash", "I", false)
  | _ => ("java/lang/String", "hashIsZero", "Z", false)
def tyJ0 : Nat → FieldType := fun k => match k with
  | 0 => .array .byte
  | 1 => .byte
  | 2 => .int
  | _ => .boolean
abbrev wsJ00 : List Cond := u_ws RJ0 TJ0 4
theorem nmJ0 : ∀ a, a < 4 → ∀ b, b < 4 → a ≠ b → (TJ0 a).2.1 ≠ (TJ0 b).2.1 := by decide +kernel
theorem tyJ0_ok : ∀ k, k < 4 → parseFieldDescriptor (TJ0 k).2.2.1 = some (tyJ0 k) := by decide +kernel
abbrev cJ0_init_81219 : ByteArray := prog_27_method_53_code
def yJ0_init_81219 : MethodName := ⟨RJ0, "<init>", "(Ljava/lang/StringBuilder;)V"⟩
abbrev cJ0_length_8abf5 : ByteArray := prog_27_method_54_code
def yJ0_length_8abf5 : MethodName := ⟨RJ0, "length", "()I"⟩
abbrev cJ0_charAt_5068e : ByteArray := prog_27_method_56_code
def yJ0_charAt_5068e : MethodName := ⟨RJ0, "charAt", "(I)C"⟩
abbrev cJ0_getBytes_840e7 : ByteArray := prog_27_method_147_code
def yJ0_getBytes_840e7 : MethodName := ⟨RJ0, "getBytes", "([BIB)V"⟩
abbrev cJ0_init_db425 : ByteArray := prog_27_method_150_code
def yJ0_init_db425 : MethodName := ⟨RJ0, "<init>", "(Ljava/lang/AbstractStringBuilder;Ljava/lang/Void;)V"⟩
abbrev cJ0_coder_7d493 : ByteArray := prog_27_method_152_code
def yJ0_coder_7d493 : MethodName := ⟨RJ0, "coder", "()B"⟩
abbrev cJ0_isLatin1_aae02 : ByteArray := prog_27_method_154_code
def yJ0_isLatin1_aae02 : MethodName := ⟨RJ0, "isLatin1", "()Z"⟩
abbrev cJ0_checkIndex_df160 : ByteArray := prog_27_method_155_code
def yJ0_checkIndex_df160 : MethodName := ⟨RJ0, "checkIndex", "(II)V"⟩
abbrev cJ0_checkBoundsOffCount_cabcc : ByteArray := prog_27_method_157_code
def yJ0_checkBoundsOffCount_cabcc : MethodName := ⟨RJ0, "checkBoundsOffCount", "(III)I"⟩
abbrev cJ0_checkBoundsBeginEnd_23922 : ByteArray := prog_27_method_158_code
def yJ0_checkBoundsBeginEnd_23922 : MethodName := ⟨RJ0, "checkBoundsBeginEnd", "(III)V"⟩
def RJ4 : String := "java/lang/StringBuilder"
def TJ4 : u_T := fun k => match k with
  | 0 => ("java/lang/AbstractStringBuilder", "value", "[B", false)
  | 1 => ("java/lang/AbstractStringBuilder", "coder", "B", false)
  | 2 => ("java/lang/AbstractStringBuilder", "maybeLatin1", "Z", false)
  | _ => ("java/lang/AbstractStringBuilder", "count", "I", false)
def tyJ4 : Nat → FieldType := fun k => match k with
  | 0 => .array .byte
  | 1 => .byte
  | 2 => .boolean
  | _ => .int
abbrev wsJ40 : List Cond := u_ws RJ4 TJ4 4
theorem nmJ4 : ∀ a, a < 4 → ∀ b, b < 4 → a ≠ b → (TJ4 a).2.1 ≠ (TJ4 b).2.1 := by decide +kernel
theorem tyJ4_ok : ∀ k, k < 4 → parseFieldDescriptor (TJ4 k).2.2.1 = some (tyJ4 k) := by decide +kernel
abbrev cJ4_init_da8c8 : ByteArray := prog_28_method_1_code
def yJ4_init_da8c8 : MethodName := ⟨RJ4, "<init>", "()V"⟩
abbrev cJ4_append_15ec4 : ByteArray := prog_28_method_7_code
def yJ4_append_15ec4 : MethodName := ⟨RJ4, "append", "(Ljava/lang/String;)Ljava/lang/StringBuilder;"⟩
abbrev cJ4_append_cf468 : ByteArray := prog_28_method_14_code
def yJ4_append_cf468 : MethodName := ⟨RJ4, "append", "(C)Ljava/lang/StringBuilder;"⟩
abbrev cJ4_append_bf812 : ByteArray := prog_28_method_15_code
def yJ4_append_bf812 : MethodName := ⟨RJ4, "append", "(I)Ljava/lang/StringBuilder;"⟩
abbrev cJ4_toString_0e30d : ByteArray := prog_28_method_42_code
def yJ4_toString_0e30d : MethodName := ⟨RJ4, "toString", "()Ljava/lang/String;"⟩
abbrev cJ4_length_8abf5 : ByteArray := prog_28_method_93_code
def yJ4_length_8abf5 : MethodName := ⟨RJ4, "length", "()I"⟩
def RJ1 : String := "java/lang/StringLatin1"
def TJ1 : u_T := fun k => match k with
  | _ => ("", "", "", false)
def tyJ1 : Nat → FieldType := fun k => match k with
  | _ => .int
abbrev wsJ10 : List Cond := u_ws RJ1 TJ1 0
theorem nmJ1 : ∀ a, a < 0 → ∀ b, b < 0 → a ≠ b → (TJ1 a).2.1 ≠ (TJ1 b).2.1 := by decide +kernel
theorem tyJ1_ok : ∀ k, k < 0 → parseFieldDescriptor (TJ1 k).2.2.1 = some (tyJ1 k) := by decide +kernel
abbrev cJ1_charAt_3b067 : ByteArray := prog_29_method_2_code
def yJ1_charAt_3b067 : MethodName := ⟨RJ1, "charAt", "([BI)C"⟩
abbrev cJ1_canEncode_fc78d : ByteArray := prog_29_method_3_code
def yJ1_canEncode_fc78d : MethodName := ⟨RJ1, "canEncode", "(C)Z"⟩
abbrev cJ1_inflate_0e8fd : ByteArray := prog_29_method_50_code
def yJ1_inflate_0e8fd : MethodName := ⟨RJ1, "inflate", "([BI[BII)V"⟩
def RJ2 : String := "java/lang/StringUTF16"
def TJ2 : u_T := fun k => match k with
  | _ => ("", "", "", false)
def tyJ2 : Nat → FieldType := fun k => match k with
  | _ => .int
abbrev wsJ20 : List Cond := u_ws RJ2 TJ2 0
theorem nmJ2 : ∀ a, a < 0 → ∀ b, b < 0 → a ≠ b → (TJ2 a).2.1 ≠ (TJ2 b).2.1 := by decide +kernel
theorem tyJ2_ok : ∀ k, k < 0 → parseFieldDescriptor (TJ2 k).2.2.1 = some (tyJ2 k) := by decide +kernel
abbrev cJ2_newBytesFor_77867 : ByteArray := prog_30_method_2_code
def yJ2_newBytesFor_77867 : MethodName := ⟨RJ2, "newBytesFor", "(I)[B"⟩
abbrev cJ2_newBytesLength_0f7a4 : ByteArray := prog_30_method_3_code
def yJ2_newBytesLength_0f7a4 : MethodName := ⟨RJ2, "newBytesLength", "(I)I"⟩
abbrev cJ2_putChar_b72d1 : ByteArray := prog_30_method_4_code
def yJ2_putChar_b72d1 : MethodName := ⟨RJ2, "putChar", "([BII)V"⟩
abbrev cJ2_getChar_3b067 : ByteArray := prog_30_method_5_code
def yJ2_getChar_3b067 : MethodName := ⟨RJ2, "getChar", "([BI)C"⟩
abbrev cJ2_length_9d52b : ByteArray := prog_30_method_6_code
def yJ2_length_9d52b : MethodName := ⟨RJ2, "length", "([B)I"⟩
abbrev cJ2_coderFromArrayLen_85cad : ByteArray := prog_30_method_15_code
def yJ2_coderFromArrayLen_85cad : MethodName := ⟨RJ2, "coderFromArrayLen", "([BI)B"⟩
abbrev cJ2_compress_39247 : ByteArray := prog_30_method_17_code
def yJ2_compress_39247 : MethodName := ⟨RJ2, "compress", "([BII)[B"⟩
abbrev cJ2_compress_5af95 : ByteArray := prog_30_method_22_code
def yJ2_compress_5af95 : MethodName := ⟨RJ2, "compress", "([BI[BII)I"⟩
abbrev cJ2_putCharSB_b72d1 : ByteArray := prog_30_method_71_code
def yJ2_putCharSB_b72d1 : MethodName := ⟨RJ2, "putCharSB", "([BII)V"⟩
abbrev cJ2_getChars_46870 : ByteArray := prog_30_method_77_code
def yJ2_getChars_46870 : MethodName := ⟨RJ2, "getChars", "(III[B)I"⟩
abbrev cJ2_putCharsAt_cd4e5 : ByteArray := prog_30_method_81_code
def yJ2_putCharsAt_cd4e5 : MethodName := ⟨RJ2, "putCharsAt", "([BICCCC)I"⟩
abbrev cJ2_charAt_3b067 : ByteArray := prog_30_method_83_code
def yJ2_charAt_3b067 : MethodName := ⟨RJ2, "charAt", "([BI)C"⟩
abbrev cJ2_inflate_0e8fd : ByteArray := prog_30_method_86_code
def yJ2_inflate_0e8fd : MethodName := ⟨RJ2, "inflate", "([BI[BII)V"⟩
abbrev cJ2_getChars_ba4f3 : ByteArray := prog_30_method_89_code
def yJ2_getChars_ba4f3 : MethodName := ⟨RJ2, "getChars", "(II[B)I"⟩
abbrev cJ2_checkIndex_2214a : ByteArray := prog_30_method_91_code
def yJ2_checkIndex_2214a : MethodName := ⟨RJ2, "checkIndex", "(I[B)V"⟩
abbrev cJ2_checkBoundsBeginEnd_d044e : ByteArray := prog_30_method_93_code
def yJ2_checkBoundsBeginEnd_d044e : MethodName := ⟨RJ2, "checkBoundsBeginEnd", "(II[B)V"⟩
abbrev cJ2_checkBoundsOffCount_d044e : ByteArray := prog_30_method_94_code
def yJ2_checkBoundsOffCount_d044e : MethodName := ⟨RJ2, "checkBoundsOffCount", "(II[B)V"⟩
def RJ10 : String := "java/lang/System"
def TJ10 : u_T := fun k => match k with
  | _ => ("", "", "", false)
def tyJ10 : Nat → FieldType := fun k => match k with
  | _ => .int
abbrev wsJ100 : List Cond := u_ws RJ10 TJ10 0
theorem nmJ10 : ∀ a, a < 0 → ∀ b, b < 0 → a ≠ b → (TJ10 a).2.1 ≠ (TJ10 b).2.1 := by decide +kernel
theorem tyJ10_ok : ∀ k, k < 0 → parseFieldDescriptor (TJ10 k).2.2.1 = some (tyJ10 k) := by decide +kernel
def RJxfd54e : String := "java/lang/constant/Constable"
def TJxfd54e : u_T := fun k => match k with
  | _ => ("", "", "", false)
def tyJxfd54e : Nat → FieldType := fun k => match k with
  | _ => .int
abbrev wsJxfd54e0 : List Cond := u_ws RJxfd54e TJxfd54e 0
theorem nmJxfd54e : ∀ a, a < 0 → ∀ b, b < 0 → a ≠ b → (TJxfd54e a).2.1 ≠ (TJxfd54e b).2.1 := by decide +kernel
theorem tyJxfd54e_ok : ∀ k, k < 0 → parseFieldDescriptor (TJxfd54e k).2.2.1 = some (tyJxfd54e k) := by decide +kernel
def RJx3cf43 : String := "java/lang/constant/ConstantDesc"
def TJx3cf43 : u_T := fun k => match k with
  | _ => ("", "", "", false)
def tyJx3cf43 : Nat → FieldType := fun k => match k with
  | _ => .int
abbrev wsJx3cf430 : List Cond := u_ws RJx3cf43 TJx3cf43 0
theorem nmJx3cf43 : ∀ a, a < 0 → ∀ b, b < 0 → a ≠ b → (TJx3cf43 a).2.1 ≠ (TJx3cf43 b).2.1 := by decide +kernel
theorem tyJx3cf43_ok : ∀ k, k < 0 → parseFieldDescriptor (TJx3cf43 k).2.2.1 = some (tyJx3cf43 k) := by decide +kernel
def RJxa1e45 : String := "java/util/AbstractCollection"
def TJxa1e45 : u_T := fun k => match k with
  | _ => ("", "", "", false)
def tyJxa1e45 : Nat → FieldType := fun k => match k with
  | _ => .int
abbrev wsJxa1e450 : List Cond := u_ws RJxa1e45 TJxa1e45 0
theorem nmJxa1e45 : ∀ a, a < 0 → ∀ b, b < 0 → a ≠ b → (TJxa1e45 a).2.1 ≠ (TJxa1e45 b).2.1 := by decide +kernel
theorem tyJxa1e45_ok : ∀ k, k < 0 → parseFieldDescriptor (TJxa1e45 k).2.2.1 = some (tyJxa1e45 k) := by decide +kernel
abbrev cJxa1e45_init_da8c8 : ByteArray := prog_34_method_1_code
def yJxa1e45_init_da8c8 : MethodName := ⟨RJxa1e45, "<init>", "()V"⟩
def RJxc12de : String := "java/util/AbstractList"
def TJxc12de : u_T := fun k => match k with
  | _ => ("", "", "", false)
def tyJxc12de : Nat → FieldType := fun k => match k with
  | _ => .int
abbrev wsJxc12de0 : List Cond := u_ws RJxc12de TJxc12de 0
theorem nmJxc12de : ∀ a, a < 0 → ∀ b, b < 0 → a ≠ b → (TJxc12de a).2.1 ≠ (TJxc12de b).2.1 := by decide +kernel
theorem tyJxc12de_ok : ∀ k, k < 0 → parseFieldDescriptor (TJxc12de k).2.2.1 = some (tyJxc12de k) := by decide +kernel
abbrev cJxc12de_init_da8c8 : ByteArray := prog_35_method_1_code
def yJxc12de_init_da8c8 : MethodName := ⟨RJxc12de, "<init>", "()V"⟩
def RJx4a65c : String := "java/util/ArrayList"
def TJx4a65c : u_T := fun k => match k with
  | 0 => ("java/util/AbstractList", "modCount", "I", false)
  | 1 => ("java/util/ArrayList", "elementData", "[Ljava/lang/Object;", false)
  | _ => ("java/util/ArrayList", "size", "I", false)
def tyJx4a65c : Nat → FieldType := fun k => match k with
  | 0 => .int
  | 1 => .array (.object "java/lang/Object")
  | _ => .int
abbrev wsJx4a65c0 : List Cond := u_ws RJx4a65c TJx4a65c 3
theorem nmJx4a65c : ∀ a, a < 3 → ∀ b, b < 3 → a ≠ b → (TJx4a65c a).2.1 ≠ (TJx4a65c b).2.1 := by decide +kernel
theorem tyJx4a65c_ok : ∀ k, k < 3 → parseFieldDescriptor (TJx4a65c k).2.2.1 = some (tyJx4a65c k) := by decide +kernel
abbrev cJx4a65c_init_da8c8 : ByteArray := prog_36_method_2_code
def yJx4a65c_init_da8c8 : MethodName := ⟨RJx4a65c, "<init>", "()V"⟩
abbrev cJx4a65c_grow_92f84 : ByteArray := prog_36_method_6_code
def yJx4a65c_grow_92f84 : MethodName := ⟨RJx4a65c, "grow", "(I)[Ljava/lang/Object;"⟩
abbrev cJx4a65c_grow_d5877 : ByteArray := prog_36_method_7_code
def yJx4a65c_grow_d5877 : MethodName := ⟨RJx4a65c, "grow", "()[Ljava/lang/Object;"⟩
abbrev cJx4a65c_size_8abf5 : ByteArray := prog_36_method_8_code
def yJx4a65c_size_8abf5 : MethodName := ⟨RJx4a65c, "size", "()I"⟩
abbrev cJx4a65c_isEmpty_aae02 : ByteArray := prog_36_method_9_code
def yJx4a65c_isEmpty_aae02 : MethodName := ⟨RJx4a65c, "isEmpty", "()Z"⟩
abbrev cJx4a65c_elementData_915e3 : ByteArray := prog_36_method_18_code
def yJx4a65c_elementData_915e3 : MethodName := ⟨RJx4a65c, "elementData", "(I)Ljava/lang/Object;"⟩
abbrev cJx4a65c_get_915e3 : ByteArray := prog_36_method_20_code
def yJx4a65c_get_915e3 : MethodName := ⟨RJx4a65c, "get", "(I)Ljava/lang/Object;"⟩
abbrev cJx4a65c_add_72be8 : ByteArray := prog_36_method_24_code
def yJx4a65c_add_72be8 : MethodName := ⟨RJx4a65c, "add", "(Ljava/lang/Object;[Ljava/lang/Object;I)V"⟩
abbrev cJx4a65c_add_9ea2d : ByteArray := prog_36_method_25_code
def yJx4a65c_add_9ea2d : MethodName := ⟨RJx4a65c, "add", "(Ljava/lang/Object;)Z"⟩
abbrev cJx4a65c_remove_915e3 : ByteArray := prog_36_method_29_code
def yJx4a65c_remove_915e3 : MethodName := ⟨RJx4a65c, "remove", "(I)Ljava/lang/Object;"⟩
abbrev cJx4a65c_fastRemove_b59b0 : ByteArray := prog_36_method_39_code
def yJx4a65c_fastRemove_b59b0 : MethodName := ⟨RJx4a65c, "fastRemove", "([Ljava/lang/Object;I)V"⟩
def RJ7 : String := "java/util/Arrays"
def TJ7 : u_T := fun k => match k with
  | _ => ("", "", "", false)
def tyJ7 : Nat → FieldType := fun k => match k with
  | _ => .int
abbrev wsJ70 : List Cond := u_ws RJ7 TJ7 0
theorem nmJ7 : ∀ a, a < 0 → ∀ b, b < 0 → a ≠ b → (TJ7 a).2.1 ≠ (TJ7 b).2.1 := by decide +kernel
theorem tyJ7_ok : ∀ k, k < 0 → parseFieldDescriptor (TJ7 k).2.2.1 = some (tyJ7 k) := by decide +kernel
abbrev cJ7_copyOf_1904c : ByteArray := prog_37_method_119_code
def yJ7_copyOf_1904c : MethodName := ⟨RJ7, "copyOf", "([Ljava/lang/Object;I)[Ljava/lang/Object;"⟩
abbrev cJ7_copyOf_6403c : ByteArray := prog_37_method_120_code
def yJ7_copyOf_6403c : MethodName := ⟨RJ7, "copyOf", "([Ljava/lang/Object;ILjava/lang/Class;)[Ljava/lang/Object;"⟩
abbrev cJ7_copyOf_9075b : ByteArray := prog_37_method_121_code
def yJ7_copyOf_9075b : MethodName := ⟨RJ7, "copyOf", "([BI)[B"⟩
abbrev cJ7_checkLength_df160 : ByteArray := prog_37_method_131_code
def yJ7_checkLength_df160 : MethodName := ⟨RJ7, "checkLength", "(II)V"⟩
abbrev cJ7_copyOfRange_39247 : ByteArray := prog_37_method_132_code
def yJ7_copyOfRange_39247 : MethodName := ⟨RJ7, "copyOfRange", "([BII)[B"⟩
abbrev cJ7_copyOfRangeByte_39247 : ByteArray := prog_37_method_133_code
def yJ7_copyOfRangeByte_39247 : MethodName := ⟨RJ7, "copyOfRangeByte", "([BII)[B"⟩
def RJx5ef63 : String := "java/util/Collection"
def TJx5ef63 : u_T := fun k => match k with
  | _ => ("", "", "", false)
def tyJx5ef63 : Nat → FieldType := fun k => match k with
  | _ => .int
abbrev wsJx5ef630 : List Cond := u_ws RJx5ef63 TJx5ef63 0
theorem nmJx5ef63 : ∀ a, a < 0 → ∀ b, b < 0 → a ≠ b → (TJx5ef63 a).2.1 ≠ (TJx5ef63 b).2.1 := by decide +kernel
theorem tyJx5ef63_ok : ∀ k, k < 0 → parseFieldDescriptor (TJx5ef63 k).2.2.1 = some (tyJx5ef63 k) := by decide +kernel
def RJxbd725 : String := "java/util/List"
def TJxbd725 : u_T := fun k => match k with
  | _ => ("", "", "", false)
def tyJxbd725 : Nat → FieldType := fun k => match k with
  | _ => .int
abbrev wsJxbd7250 : List Cond := u_ws RJxbd725 TJxbd725 0
theorem nmJxbd725 : ∀ a, a < 0 → ∀ b, b < 0 → a ≠ b → (TJxbd725 a).2.1 ≠ (TJxbd725 b).2.1 := by decide +kernel
theorem tyJxbd725_ok : ∀ k, k < 0 → parseFieldDescriptor (TJxbd725 k).2.2.1 = some (tyJxbd725 k) := by decide +kernel
def RJ15 : String := "java/util/Objects"
def TJ15 : u_T := fun k => match k with
  | _ => ("", "", "", false)
def tyJ15 : Nat → FieldType := fun k => match k with
  | _ => .int
abbrev wsJ150 : List Cond := u_ws RJ15 TJ15 0
theorem nmJ15 : ∀ a, a < 0 → ∀ b, b < 0 → a ≠ b → (TJ15 a).2.1 ≠ (TJ15 b).2.1 := by decide +kernel
theorem tyJ15_ok : ∀ k, k < 0 → parseFieldDescriptor (TJ15 k).2.2.1 = some (tyJ15 k) := by decide +kernel
abbrev cJ15_checkIndex_7cf53 : ByteArray := prog_40_method_17_code
def yJ15_checkIndex_7cf53 : MethodName := ⟨RJ15, "checkIndex", "(II)I"⟩
def RJxf0a74 : String := "java/util/RandomAccess"
def TJxf0a74 : u_T := fun k => match k with
  | _ => ("", "", "", false)
def tyJxf0a74 : Nat → FieldType := fun k => match k with
  | _ => .int
abbrev wsJxf0a740 : List Cond := u_ws RJxf0a74 TJxf0a74 0
theorem nmJxf0a74 : ∀ a, a < 0 → ∀ b, b < 0 → a ≠ b → (TJxf0a74 a).2.1 ≠ (TJxf0a74 b).2.1 := by decide +kernel
theorem tyJxf0a74_ok : ∀ k, k < 0 → parseFieldDescriptor (TJxf0a74 k).2.2.1 = some (tyJxf0a74 k) := by decide +kernel
def RJxa66e6 : String := "java/util/SequencedCollection"
def TJxa66e6 : u_T := fun k => match k with
  | _ => ("", "", "", false)
def tyJxa66e6 : Nat → FieldType := fun k => match k with
  | _ => .int
abbrev wsJxa66e60 : List Cond := u_ws RJxa66e6 TJxa66e6 0
theorem nmJxa66e6 : ∀ a, a < 0 → ∀ b, b < 0 → a ≠ b → (TJxa66e6 a).2.1 ≠ (TJxa66e6 b).2.1 := by decide +kernel
theorem tyJxa66e6_ok : ∀ k, k < 0 → parseFieldDescriptor (TJxa66e6 k).2.2.1 = some (tyJxa66e6 k) := by decide +kernel
def RJ8 : String := "jdk/internal/util/ArraysSupport"
def TJ8 : u_T := fun k => match k with
  | _ => ("", "", "", false)
def tyJ8 : Nat → FieldType := fun k => match k with
  | _ => .int
abbrev wsJ80 : List Cond := u_ws RJ8 TJ8 0
theorem nmJ8 : ∀ a, a < 0 → ∀ b, b < 0 → a ≠ b → (TJ8 a).2.1 ≠ (TJ8 b).2.1 := by decide +kernel
theorem tyJ8_ok : ∀ k, k < 0 → parseFieldDescriptor (TJ8 k).2.2.1 = some (tyJ8 k) := by decide +kernel
abbrev cJ8_newLength_cabcc : ByteArray := prog_43_method_27_code
def yJ8_newLength_cabcc : MethodName := ⟨RJ8, "newLength", "(III)I"⟩
abbrev cJ8_hugeLength_7cf53 : ByteArray := prog_43_method_28_code
def yJ8_hugeLength_7cf53 : MethodName := ⟨RJ8, "hugeLength", "(II)I"⟩
def RJ3 : String := "jdk/internal/util/Preconditions"
def TJ3 : u_T := fun k => match k with
  | _ => ("", "", "", false)
def tyJ3 : Nat → FieldType := fun k => match k with
  | _ => .int
abbrev wsJ30 : List Cond := u_ws RJ3 TJ3 0
theorem nmJ3 : ∀ a, a < 0 → ∀ b, b < 0 → a ≠ b → (TJ3 a).2.1 ≠ (TJ3 b).2.1 := by decide +kernel
theorem tyJ3_ok : ∀ k, k < 0 → parseFieldDescriptor (TJ3 k).2.2.1 = some (tyJ3 k) := by decide +kernel
abbrev cJ3_checkIndex_8e157 : ByteArray := prog_44_method_11_code
def yJ3_checkIndex_8e157 : MethodName := ⟨RJ3, "checkIndex", "(IILjava/util/function/BiFunction;)I"⟩
abbrev cJ3_checkFromToIndex_8c36e : ByteArray := prog_44_method_12_code
def yJ3_checkFromToIndex_8c36e : MethodName := ⟨RJ3, "checkFromToIndex", "(IIILjava/util/function/BiFunction;)I"⟩
abbrev cJ3_checkFromIndexSize_8c36e : ByteArray := prog_44_method_13_code
def yJ3_checkFromIndexSize_8c36e : MethodName := ⟨RJ3, "checkFromIndexSize", "(IIILjava/util/function/BiFunction;)I"⟩
def RL : String := "RateLimiterLaw"
abbrev cL_cell : ByteArray := method_2_code
def yL_cell : MethodName := ⟨RL, "cell", "([II)I"⟩
abbrev cL_mixed : ByteArray := method_3_code
def yL_mixed : MethodName := ⟨RL, "mixed", "(I)I"⟩
abbrev cL_draw : ByteArray := method_4_code
def yL_draw : MethodName := ⟨RL, "draw", "([II)I"⟩
abbrev cL_fill : ByteArray := method_5_code
def yL_fill : MethodName := ⟨RL, "fill", "(LRateLimiter;Ljava/lang/String;)Z"⟩
abbrev cL_stands : ByteArray := method_6_code
def yL_stands : MethodName := ⟨RL, "stands", "(LRateLimiter;LRateLimiterLaw$Tree;)Z"⟩
abbrev cL_same : ByteArray := method_7_code
def yL_same : MethodName := ⟨RL, "same", "(LRateLimiter;LRateLimiterLaw$Tree;)Z"⟩
abbrev cL_law : ByteArray := code
def yL_law : MethodName := ⟨RL, "law", "([I)Z"⟩
abbrev cL_tree : ByteArray := method_9_code
def yL_tree : MethodName := ⟨RL, "tree", "(LRateLimiter;LRateLimiterLaw$Tree;)Z"⟩
abbrev cL_asked : ByteArray := method_10_code
def yL_asked : MethodName := ⟨RL, "asked", "(LRateLimiter;LRateLimiterLaw$Tree;II)Z"⟩
abbrev cL_back : ByteArray := method_11_code
def yL_back : MethodName := ⟨RL, "back", "(LRateLimiterLaw$Tree;[[I)V"⟩
abbrev vwCl : List vw_C := [(RX0, TX0, 3), (RX1, TX1, 5), (RX2, TX2, 5), (RX3, TX3, 5), (RX4, TX4, 5), (RX5, TX5, 11), (RX6, TX6, 6), (RX7, TX7, 15), (RX8, TX8, 9), (RX9, TX9, 2), (RX10, TX10, 4), (RX11, TX11, 8), (RX12, TX12, 25), (RJ0, TJ0, 4), (RJ4, TJ4, 4), (RJx4a65c, TJx4a65c, 3)]
