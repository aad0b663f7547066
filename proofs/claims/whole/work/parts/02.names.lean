def RX0 : String := "Millrace$Batch"
def TX0 : u_T := fun k => match k with
  | 0 => ("Millrace$Batch", "number", "I", true)
  | 1 => ("Millrace$Batch", "kind", "LMillrace$Kind;", true)
  | 2 => ("Millrace$Batch", "pieces", "I", false)
  | 3 => ("Millrace$Batch", "cost", "I", false)
  | 4 => ("Millrace$Batch", "state", "I", false)
  | 5 => ("Millrace$Batch", "operation", "I", false)
  | 6 => ("Millrace$Batch", "priority", "I", false)
  | 7 => ("Millrace$Batch", "isFrozen", "Z", false)
  | 8 => ("Millrace$Batch", "wasSentBack", "Z", false)
  | 9 => ("Millrace$Batch", "comes", "I", false)
  | 10 => ("Millrace$Batch", "faults", "I", false)
  | _ => ("Millrace$Batch", "parents", "J", false)
def tyX0 : Nat → FieldType := fun k => match k with
  | 0 => .int
  | 1 => .object "Millrace$Kind"
  | 2 => .int
  | 3 => .int
  | 4 => .int
  | 5 => .int
  | 6 => .int
  | 7 => .boolean
  | 8 => .boolean
  | 9 => .int
  | 10 => .int
  | _ => .long
theorem nmX0 : ∀ a, a < 12 → ∀ b, b < 12 → a ≠ b → (TX0 a).2.1 ≠ (TX0 b).2.1 := by decide +kernel
theorem tyX0_ok : ∀ k, k < 12 → parseFieldDescriptor (TX0 k).2.2.1 = some (tyX0 k) := by decide +kernel
abbrev cX0_init : ByteArray := prog_2_method_1_code
def yX0_init : MethodName := ⟨RX0, "<init>", "(ILMillrace$Kind;II)V"⟩
abbrev cX0_bit : ByteArray := prog_2_method_2_code
def yX0_bit : MethodName := ⟨RX0, "bit", "()J"⟩
abbrev cX0_wasBought : ByteArray := prog_2_method_3_code
def yX0_wasBought : MethodName := ⟨RX0, "wasBought", "()Z"⟩
abbrev cX0_operationNow : ByteArray := prog_2_method_4_code
def yX0_operationNow : MethodName := ⟨RX0, "operationNow", "()LMillrace$Operation;"⟩
abbrev cX0_waitsFor : ByteArray := prog_2_method_5_code
def yX0_waitsFor : MethodName := ⟨RX0, "waitsFor", "(I)Z"⟩
abbrev cX0_canJoin : ByteArray := prog_2_method_6_code
def yX0_canJoin : MethodName := ⟨RX0, "canJoin", "(LMillrace$Batch;)Z"⟩
abbrev cX0_takesParts : ByteArray := prog_2_method_7_code
def yX0_takesParts : MethodName := ⟨RX0, "takesParts", "()Z"⟩
abbrev cX0_giveUp : ByteArray := prog_2_method_8_code
def yX0_giveUp : MethodName := ⟨RX0, "giveUp", "(I)I"⟩
abbrev cX0_foundFault : ByteArray := prog_2_method_9_code
def yX0_foundFault : MethodName := ⟨RX0, "foundFault", "()I"⟩
abbrev cX0_sendBackTo : ByteArray := prog_2_method_10_code
def yX0_sendBackTo : MethodName := ⟨RX0, "sendBackTo", "(I)V"⟩
abbrev cX0_tell : ByteArray := prog_2_method_11_code
def yX0_tell : MethodName := ⟨RX0, "tell", "(I)I"⟩
def RX1 : String := "Millrace$Floor"
def TX1 : u_T := fun k => match k with
  | 0 => ("Millrace$Floor", "stock", "LMillrace$Stock;", true)
  | 1 => ("Millrace$Floor", "machines", "[LMillrace$Machine;", true)
  | 2 => ("Millrace$Floor", "machineCount", "I", false)
  | 3 => ("Millrace$Floor", "people", "[LMillrace$Person;", true)
  | 4 => ("Millrace$Floor", "personCount", "I", false)
  | 5 => ("Millrace$Floor", "worked", "I", false)
  | _ => ("Millrace$Floor", "repaired", "I", false)
def tyX1 : Nat → FieldType := fun k => match k with
  | 0 => .object "Millrace$Stock"
  | 1 => .array (.object "Millrace$Machine")
  | 2 => .int
  | 3 => .array (.object "Millrace$Person")
  | 4 => .int
  | 5 => .int
  | _ => .int
theorem nmX1 : ∀ a, a < 7 → ∀ b, b < 7 → a ≠ b → (TX1 a).2.1 ≠ (TX1 b).2.1 := by decide +kernel
theorem tyX1_ok : ∀ k, k < 7 → parseFieldDescriptor (TX1 k).2.2.1 = some (tyX1 k) := by decide +kernel
abbrev cX1_init : ByteArray := prog_3_method_1_code
def yX1_init : MethodName := ⟨RX1, "<init>", "()V"⟩
abbrev cX1_putMachine : ByteArray := prog_3_method_2_code
def yX1_putMachine : MethodName := ⟨RX1, "putMachine", "(LMillrace$Machine;)V"⟩
abbrev cX1_putPerson : ByteArray := prog_3_method_3_code
def yX1_putPerson : MethodName := ⟨RX1, "putPerson", "(LMillrace$Person;)V"⟩
abbrev cX1_doHour : ByteArray := prog_3_method_4_code
def yX1_doHour : MethodName := ⟨RX1, "doHour", "(I)V"⟩
abbrev cX1_workAt : ByteArray := prog_3_method_5_code
def yX1_workAt : MethodName := ⟨RX1, "workAt", "(LMillrace$Machine;I)V"⟩
abbrev cX1_workHour : ByteArray := prog_3_method_6_code
def yX1_workHour : MethodName := ⟨RX1, "workHour", "(LMillrace$Machine;LMillrace$Batch;LMillrace$Person;)V"⟩
abbrev cX1_hasLeft : ByteArray := prog_3_method_7_code
def yX1_hasLeft : MethodName := ⟨RX1, "hasLeft", "(LMillrace$Batch;)Z"⟩
abbrev cX1_repairAt : ByteArray := prog_3_method_8_code
def yX1_repairAt : MethodName := ⟨RX1, "repairAt", "(LMillrace$Machine;)V"⟩
abbrev cX1_takeBatchAt : ByteArray := prog_3_method_9_code
def yX1_takeBatchAt : MethodName := ⟨RX1, "takeBatchAt", "(LMillrace$Machine;I)V"⟩
abbrev cX1_reasonAgainst : ByteArray := prog_3_method_10_code
def yX1_reasonAgainst : MethodName := ⟨RX1, "reasonAgainst", "(LMillrace$Batch;LMillrace$Machine;I)I"⟩
abbrev cX1_personFor : ByteArray := prog_3_method_11_code
def yX1_personFor : MethodName := ⟨RX1, "personFor", "(LMillrace$Operation;I)LMillrace$Person;"⟩
abbrev cX1_begin : ByteArray := prog_3_method_12_code
def yX1_begin : MethodName := ⟨RX1, "begin", "(LMillrace$Batch;LMillrace$Machine;I)V"⟩
abbrev cX1_takeParts : ByteArray := prog_3_method_13_code
def yX1_takeParts : MethodName := ⟨RX1, "takeParts", "(LMillrace$Batch;)V"⟩
abbrev cX1_scrap : ByteArray := prog_3_method_14_code
def yX1_scrap : MethodName := ⟨RX1, "scrap", "(LMillrace$Batch;)V"⟩
def RX2 : String := "Millrace$Kind"
def TX2 : u_T := fun k => match k with
  | 0 => ("Millrace$Kind", "number", "I", true)
  | 1 => ("Millrace$Kind", "isBought", "Z", false)
  | 2 => ("Millrace$Kind", "price", "I", false)
  | 3 => ("Millrace$Kind", "hours", "I", false)
  | 4 => ("Millrace$Kind", "lines", "[LMillrace$Line;", true)
  | 5 => ("Millrace$Kind", "lineCount", "I", false)
  | 6 => ("Millrace$Kind", "operations", "[LMillrace$Operation;", true)
  | 7 => ("Millrace$Kind", "operationCount", "I", false)
  | 8 => ("Millrace$Kind", "storeSize", "I", false)
  | 9 => ("Millrace$Kind", "wasBatched", "Z", false)
  | 10 => ("Millrace$Kind", "inStore", "I", false)
  | 11 => ("Millrace$Kind", "promised", "I", false)
  | 12 => ("Millrace$Kind", "asked", "I", false)
  | _ => ("Millrace$Kind", "lead", "I", false)
def tyX2 : Nat → FieldType := fun k => match k with
  | 0 => .int
  | 1 => .boolean
  | 2 => .int
  | 3 => .int
  | 4 => .array (.object "Millrace$Line")
  | 5 => .int
  | 6 => .array (.object "Millrace$Operation")
  | 7 => .int
  | 8 => .int
  | 9 => .boolean
  | 10 => .int
  | 11 => .int
  | 12 => .int
  | _ => .int
theorem nmX2 : ∀ a, a < 14 → ∀ b, b < 14 → a ≠ b → (TX2 a).2.1 ≠ (TX2 b).2.1 := by decide +kernel
theorem tyX2_ok : ∀ k, k < 14 → parseFieldDescriptor (TX2 k).2.2.1 = some (tyX2 k) := by decide +kernel
abbrev cX2_init : ByteArray := prog_4_method_1_code
def yX2_init : MethodName := ⟨RX2, "<init>", "(I)V"⟩
abbrev cX2_canBeMade : ByteArray := prog_4_method_2_code
def yX2_canBeMade : MethodName := ⟨RX2, "canBeMade", "()Z"⟩
abbrev cX2_putLine : ByteArray := prog_4_method_3_code
def yX2_putLine : MethodName := ⟨RX2, "putLine", "(LMillrace$Line;)I"⟩
abbrev cX2_putOperation : ByteArray := prog_4_method_4_code
def yX2_putOperation : MethodName := ⟨RX2, "putOperation", "(LMillrace$Operation;)I"⟩
abbrev cX2_operationAt : ByteArray := prog_4_method_5_code
def yX2_operationAt : MethodName := ⟨RX2, "operationAt", "(I)LMillrace$Operation;"⟩
abbrev cX2_hasStoreRoom : ByteArray := prog_4_method_6_code
def yX2_hasStoreRoom : MethodName := ⟨RX2, "hasStoreRoom", "(I)Z"⟩
abbrev cX2_free : ByteArray := prog_4_method_7_code
def yX2_free : MethodName := ⟨RX2, "free", "()I"⟩
abbrev cX2_hasPartsFor : ByteArray := prog_4_method_8_code
def yX2_hasPartsFor : MethodName := ⟨RX2, "hasPartsFor", "(I)Z"⟩
abbrev cX2_measureLead : ByteArray := prog_4_method_9_code
def yX2_measureLead : MethodName := ⟨RX2, "measureLead", "()V"⟩
def RX3 : String := "Millrace$Line"
def TX3 : u_T := fun k => match k with
  | 0 => ("Millrace$Line", "part", "LMillrace$Kind;", true)
  | 1 => ("Millrace$Line", "many", "I", true)
  | _ => ("Millrace$Line", "other", "LMillrace$Kind;", true)
def tyX3 : Nat → FieldType := fun k => match k with
  | 0 => .object "Millrace$Kind"
  | 1 => .int
  | _ => .object "Millrace$Kind"
theorem nmX3 : ∀ a, a < 3 → ∀ b, b < 3 → a ≠ b → (TX3 a).2.1 ≠ (TX3 b).2.1 := by decide +kernel
theorem tyX3_ok : ∀ k, k < 3 → parseFieldDescriptor (TX3 k).2.2.1 = some (tyX3 k) := by decide +kernel
abbrev cX3_init : ByteArray := prog_5_method_1_code
def yX3_init : MethodName := ⟨RX3, "<init>", "(LMillrace$Kind;ILMillrace$Kind;)V"⟩
abbrev cX3_needFor : ByteArray := prog_5_method_2_code
def yX3_needFor : MethodName := ⟨RX3, "needFor", "(I)I"⟩
abbrev cX3_sourceFor : ByteArray := prog_5_method_3_code
def yX3_sourceFor : MethodName := ⟨RX3, "sourceFor", "(I)LMillrace$Kind;"⟩
abbrev cX3_forgetAsked : ByteArray := prog_5_method_4_code
def yX3_forgetAsked : MethodName := ⟨RX3, "forgetAsked", "()V"⟩
def RX4 : String := "Millrace$Machine"
def TX4 : u_T := fun k => match k with
  | 0 => ("Millrace$Machine", "number", "I", true)
  | 1 => ("Millrace$Machine", "classes", "I", true)
  | 2 => ("Millrace$Machine", "setUp", "I", true)
  | 3 => ("Millrace$Machine", "cost", "I", true)
  | 4 => ("Millrace$Machine", "limit", "I", true)
  | 5 => ("Millrace$Machine", "repair", "I", true)
  | 6 => ("Millrace$Machine", "part", "LMillrace$Kind;", true)
  | 7 => ("Millrace$Machine", "batch", "LMillrace$Batch;", false)
  | 8 => ("Millrace$Machine", "person", "LMillrace$Person;", false)
  | 9 => ("Millrace$Machine", "left", "I", false)
  | 10 => ("Millrace$Machine", "isDrawn", "Z", false)
  | 11 => ("Millrace$Machine", "wear", "I", false)
  | 12 => ("Millrace$Machine", "lastKind", "LMillrace$Kind;", false)
  | 13 => ("Millrace$Machine", "repairState", "I", false)
  | _ => ("Millrace$Machine", "repairLeft", "I", false)
def tyX4 : Nat → FieldType := fun k => match k with
  | 0 => .int
  | 1 => .int
  | 2 => .int
  | 3 => .int
  | 4 => .int
  | 5 => .int
  | 6 => .object "Millrace$Kind"
  | 7 => .object "Millrace$Batch"
  | 8 => .object "Millrace$Person"
  | 9 => .int
  | 10 => .boolean
  | 11 => .int
  | 12 => .object "Millrace$Kind"
  | 13 => .int
  | _ => .int
theorem nmX4 : ∀ a, a < 15 → ∀ b, b < 15 → a ≠ b → (TX4 a).2.1 ≠ (TX4 b).2.1 := by decide +kernel
theorem tyX4_ok : ∀ k, k < 15 → parseFieldDescriptor (TX4 k).2.2.1 = some (tyX4 k) := by decide +kernel
abbrev cX4_init : ByteArray := prog_6_method_1_code
def yX4_init : MethodName := ⟨RX4, "<init>", "(IIIIIILMillrace$Kind;)V"⟩
abbrev cX4_canDo : ByteArray := prog_6_method_2_code
def yX4_canDo : MethodName := ⟨RX4, "canDo", "(LMillrace$Operation;)Z"⟩
abbrev cX4_isReady : ByteArray := prog_6_method_3_code
def yX4_isReady : MethodName := ⟨RX4, "isReady", "()Z"⟩
abbrev cX4_begin : ByteArray := prog_6_method_4_code
def yX4_begin : MethodName := ⟨RX4, "begin", "(LMillrace$Batch;LMillrace$Operation;LMillrace$Person;)V"⟩
abbrev cX4_letGo : ByteArray := prog_6_method_5_code
def yX4_letGo : MethodName := ⟨RX4, "letGo", "()V"⟩
abbrev cX4_drawsFault : ByteArray := prog_6_method_6_code
def yX4_drawsFault : MethodName := ⟨RX4, "drawsFault", "(I)Z"⟩
abbrev cX4_beginRepair : ByteArray := prog_6_method_7_code
def yX4_beginRepair : MethodName := ⟨RX4, "beginRepair", "()V"⟩
abbrev cX4_repairHour : ByteArray := prog_6_method_8_code
def yX4_repairHour : MethodName := ⟨RX4, "repairHour", "()V"⟩
abbrev cX4_tell : ByteArray := prog_6_method_9_code
def yX4_tell : MethodName := ⟨RX4, "tell", "(I)I"⟩
def RX5 : String := "Millrace$Operation"
def TX5 : u_T := fun k => match k with
  | 0 => ("Millrace$Operation", "work", "I", true)
  | 1 => ("Millrace$Operation", "skill", "I", true)
  | _ => ("Millrace$Operation", "hours", "I", true)
def tyX5 : Nat → FieldType := fun k => match k with
  | 0 => .int
  | 1 => .int
  | _ => .int
theorem nmX5 : ∀ a, a < 3 → ∀ b, b < 3 → a ≠ b → (TX5 a).2.1 ≠ (TX5 b).2.1 := by decide +kernel
theorem tyX5_ok : ∀ k, k < 3 → parseFieldDescriptor (TX5 k).2.2.1 = some (tyX5 k) := by decide +kernel
abbrev cX5_init : ByteArray := prog_7_method_1_code
def yX5_init : MethodName := ⟨RX5, "<init>", "(III)V"⟩
def RX6 : String := "Millrace$Order"
def TX6 : u_T := fun k => match k with
  | 0 => ("Millrace$Order", "kind", "LMillrace$Kind;", true)
  | 1 => ("Millrace$Order", "pieces", "I", true)
  | 2 => ("Millrace$Order", "due", "I", true)
  | 3 => ("Millrace$Order", "promised", "I", false)
  | 4 => ("Millrace$Order", "shipped", "LMillrace$Batch;", false)
  | _ => ("Millrace$Order", "shippedAt", "I", false)
def tyX6 : Nat → FieldType := fun k => match k with
  | 0 => .object "Millrace$Kind"
  | 1 => .int
  | 2 => .int
  | 3 => .int
  | 4 => .object "Millrace$Batch"
  | _ => .int
theorem nmX6 : ∀ a, a < 6 → ∀ b, b < 6 → a ≠ b → (TX6 a).2.1 ≠ (TX6 b).2.1 := by decide +kernel
theorem tyX6_ok : ∀ k, k < 6 → parseFieldDescriptor (TX6 k).2.2.1 = some (tyX6 k) := by decide +kernel
abbrev cX6_init : ByteArray := prog_8_method_1_code
def yX6_init : MethodName := ⟨RX6, "<init>", "(LMillrace$Kind;II)V"⟩
abbrev cX6_tell : ByteArray := prog_8_method_2_code
def yX6_tell : MethodName := ⟨RX6, "tell", "(II)I"⟩
def RX7 : String := "Millrace$Person"
def TX7 : u_T := fun k => match k with
  | 0 => ("Millrace$Person", "number", "I", true)
  | 1 => ("Millrace$Person", "wage", "I", true)
  | 2 => ("Millrace$Person", "begin", "I", true)
  | 3 => ("Millrace$Person", "hours", "I", true)
  | 4 => ("Millrace$Person", "levels", "[I", true)
  | 5 => ("Millrace$Person", "worked", "[I", true)
  | _ => ("Millrace$Person", "machine", "I", false)
def tyX7 : Nat → FieldType := fun k => match k with
  | 0 => .int
  | 1 => .int
  | 2 => .int
  | 3 => .int
  | 4 => .array .int
  | 5 => .array .int
  | _ => .int
theorem nmX7 : ∀ a, a < 7 → ∀ b, b < 7 → a ≠ b → (TX7 a).2.1 ≠ (TX7 b).2.1 := by decide +kernel
theorem tyX7_ok : ∀ k, k < 7 → parseFieldDescriptor (TX7 k).2.2.1 = some (tyX7 k) := by decide +kernel
abbrev cX7_init : ByteArray := prog_9_method_1_code
def yX7_init : MethodName := ⟨RX7, "<init>", "(IIII)V"⟩
abbrev cX7_isOnShift : ByteArray := prog_9_method_2_code
def yX7_isOnShift : MethodName := ⟨RX7, "isOnShift", "(I)Z"⟩
abbrev cX7_canBegin : ByteArray := prog_9_method_3_code
def yX7_canBegin : MethodName := ⟨RX7, "canBegin", "(II)Z"⟩
abbrev cX7_reach : ByteArray := prog_9_method_4_code
def yX7_reach : MethodName := ⟨RX7, "reach", "(II)V"⟩
abbrev cX7_learnHour : ByteArray := prog_9_method_5_code
def yX7_learnHour : MethodName := ⟨RX7, "learnHour", "(I)V"⟩
def RX8 : String := "Millrace$Stock"
def TX8 : u_T := fun k => match k with
  | 0 => ("Millrace$Stock", "batches", "[LMillrace$Batch;", true)
  | 1 => ("Millrace$Stock", "batchCount", "I", false)
  | 2 => ("Millrace$Stock", "orders", "[LMillrace$Order;", true)
  | 3 => ("Millrace$Stock", "orderCount", "I", false)
  | _ => ("Millrace$Stock", "queueSizes", "[I", true)
def tyX8 : Nat → FieldType := fun k => match k with
  | 0 => .array (.object "Millrace$Batch")
  | 1 => .int
  | 2 => .array (.object "Millrace$Order")
  | 3 => .int
  | _ => .array .int
theorem nmX8 : ∀ a, a < 5 → ∀ b, b < 5 → a ≠ b → (TX8 a).2.1 ≠ (TX8 b).2.1 := by decide +kernel
theorem tyX8_ok : ∀ k, k < 5 → parseFieldDescriptor (TX8 k).2.2.1 = some (tyX8 k) := by decide +kernel
abbrev cX8_init : ByteArray := prog_10_method_1_code
def yX8_init : MethodName := ⟨RX8, "<init>", "()V"⟩
abbrev cX8_newBatch : ByteArray := prog_10_method_2_code
def yX8_newBatch : MethodName := ⟨RX8, "newBatch", "(LMillrace$Kind;II)LMillrace$Batch;"⟩
abbrev cX8_putOrder : ByteArray := prog_10_method_3_code
def yX8_putOrder : MethodName := ⟨RX8, "putOrder", "(LMillrace$Order;)V"⟩
abbrev cX8_queueLength : ByteArray := prog_10_method_4_code
def yX8_queueLength : MethodName := ⟨RX8, "queueLength", "(I)I"⟩
abbrev cX8_hasQueueRoom : ByteArray := prog_10_method_5_code
def yX8_hasQueueRoom : MethodName := ⟨RX8, "hasQueueRoom", "(LMillrace$Operation;)Z"⟩
abbrev cX8_queuedAt : ByteArray := prog_10_method_6_code
def yX8_queuedAt : MethodName := ⟨RX8, "queuedAt", "(II)I"⟩
abbrev cX8_putInStore : ByteArray := prog_10_method_7_code
def yX8_putInStore : MethodName := ⟨RX8, "putInStore", "(LMillrace$Batch;)V"⟩
abbrev cX8_letCome : ByteArray := prog_10_method_8_code
def yX8_letCome : MethodName := ⟨RX8, "letCome", "(I)V"⟩
abbrev cX8_take : ByteArray := prog_10_method_9_code
def yX8_take : MethodName := ⟨RX8, "take", "(LMillrace$Kind;I)I"⟩
abbrev cX8_sourcesOf : ByteArray := prog_10_method_10_code
def yX8_sourcesOf : MethodName := ⟨RX8, "sourcesOf", "(LMillrace$Kind;I)J"⟩
abbrev cX8_moveInto : ByteArray := prog_10_method_11_code
def yX8_moveInto : MethodName := ⟨RX8, "moveInto", "(LMillrace$Batch;LMillrace$Kind;I)V"⟩
abbrev cX8_familyOf : ByteArray := prog_10_method_12_code
def yX8_familyOf : MethodName := ⟨RX8, "familyOf", "(LMillrace$Batch;)J"⟩
abbrev cX8_originsOf : ByteArray := prog_10_method_13_code
def yX8_originsOf : MethodName := ⟨RX8, "originsOf", "(LMillrace$Batch;)J"⟩
abbrev cX8_cutPromises : ByteArray := prog_10_method_14_code
def yX8_cutPromises : MethodName := ⟨RX8, "cutPromises", "(LMillrace$Kind;)V"⟩
abbrev cX8_costOf : ByteArray := prog_10_method_15_code
def yX8_costOf : MethodName := ⟨RX8, "costOf", "(I)I"⟩
def RX9 : String := "Millrace"
def TX9 : u_T := fun k => match k with
  | 0 => ("Millrace", "kinds", "[LMillrace$Kind;", true)
  | 1 => ("Millrace", "floor", "LMillrace$Floor;", true)
  | 2 => ("Millrace", "stock", "LMillrace$Stock;", true)
  | 3 => ("Millrace", "hour", "I", false)
  | 4 => ("Millrace", "isStanding", "Z", false)
  | _ => ("Millrace", "bought", "I", false)
def tyX9 : Nat → FieldType := fun k => match k with
  | 0 => .array (.object "Millrace$Kind")
  | 1 => .object "Millrace$Floor"
  | 2 => .object "Millrace$Stock"
  | 3 => .int
  | 4 => .boolean
  | _ => .int
theorem nmX9 : ∀ a, a < 6 → ∀ b, b < 6 → a ≠ b → (TX9 a).2.1 ≠ (TX9 b).2.1 := by decide +kernel
theorem tyX9_ok : ∀ k, k < 6 → parseFieldDescriptor (TX9 k).2.2.1 = some (tyX9 k) := by decide +kernel
abbrev cX9_init : ByteArray := prog_1_method_1_code
def yX9_init : MethodName := ⟨RX9, "<init>", "()V"⟩
abbrev cX9_setBought : ByteArray := prog_1_method_2_code
def yX9_setBought : MethodName := ⟨RX9, "setBought", "(III)V"⟩
abbrev cX9_addLine : ByteArray := prog_1_method_3_code
def yX9_addLine : MethodName := ⟨RX9, "addLine", "(IIII)I"⟩
abbrev cX9_addOperation : ByteArray := prog_1_method_4_code
def yX9_addOperation : MethodName := ⟨RX9, "addOperation", "(IIII)I"⟩
abbrev cX9_setStore : ByteArray := prog_1_method_5_code
def yX9_setStore : MethodName := ⟨RX9, "setStore", "(II)I"⟩
abbrev cX9_setQueue : ByteArray := prog_1_method_6_code
def yX9_setQueue : MethodName := ⟨RX9, "setQueue", "(II)I"⟩
abbrev cX9_addMachine : ByteArray := prog_1_method_7_code
def yX9_addMachine : MethodName := ⟨RX9, "addMachine", "(IIIIII)I"⟩
abbrev cX9_addPerson : ByteArray := prog_1_method_8_code
def yX9_addPerson : MethodName := ⟨RX9, "addPerson", "(III)I"⟩
abbrev cX9_setLevel : ByteArray := prog_1_method_9_code
def yX9_setLevel : MethodName := ⟨RX9, "setLevel", "(III)I"⟩
abbrev cX9_buy : ByteArray := prog_1_method_10_code
def yX9_buy : MethodName := ⟨RX9, "buy", "(II)I"⟩
abbrev cX9_late : ByteArray := prog_1_method_11_code
def yX9_late : MethodName := ⟨RX9, "late", "(II)I"⟩
abbrev cX9_make : ByteArray := prog_1_method_12_code
def yX9_make : MethodName := ⟨RX9, "make", "(III)I"⟩
abbrev cX9_rank : ByteArray := prog_1_method_13_code
def yX9_rank : MethodName := ⟨RX9, "rank", "(IIZ)Z"⟩
abbrev cX9_split : ByteArray := prog_1_method_14_code
def yX9_split : MethodName := ⟨RX9, "split", "(II)I"⟩
abbrev cX9_join : ByteArray := prog_1_method_15_code
def yX9_join : MethodName := ⟨RX9, "join", "(II)I"⟩
abbrev cX9_recall : ByteArray := prog_1_method_16_code
def yX9_recall : MethodName := ⟨RX9, "recall", "(I)I"⟩
abbrev cX9_order : ByteArray := prog_1_method_17_code
def yX9_order : MethodName := ⟨RX9, "order", "(III)I"⟩
abbrev cX9_promise : ByteArray := prog_1_method_18_code
def yX9_promise : MethodName := ⟨RX9, "promise", "(I)I"⟩
abbrev cX9_ship : ByteArray := prog_1_method_19_code
def yX9_ship : MethodName := ⟨RX9, "ship", "(I)I"⟩
abbrev cX9_stand : ByteArray := prog_1_method_20_code
def yX9_stand : MethodName := ⟨RX9, "stand", "(Z)Z"⟩
abbrev cX9_run : ByteArray := prog_1_method_21_code
def yX9_run : MethodName := ⟨RX9, "run", "(I)I"⟩
abbrev cX9_hour : ByteArray := prog_1_method_22_code
def yX9_hour : MethodName := ⟨RX9, "hour", "()I"⟩
abbrev cX9_batches : ByteArray := prog_1_method_23_code
def yX9_batches : MethodName := ⟨RX9, "batches", "()I"⟩
abbrev cX9_batch : ByteArray := prog_1_method_24_code
def yX9_batch : MethodName := ⟨RX9, "batch", "(II)I"⟩
abbrev cX9_parent : ByteArray := prog_1_method_25_code
def yX9_parent : MethodName := ⟨RX9, "parent", "(II)I"⟩
abbrev cX9_origin : ByteArray := prog_1_method_26_code
def yX9_origin : MethodName := ⟨RX9, "origin", "(II)I"⟩
abbrev cX9_machine : ByteArray := prog_1_method_27_code
def yX9_machine : MethodName := ⟨RX9, "machine", "(II)I"⟩
abbrev cX9_level : ByteArray := prog_1_method_28_code
def yX9_level : MethodName := ⟨RX9, "level", "(II)I"⟩
abbrev cX9_machineOf : ByteArray := prog_1_method_29_code
def yX9_machineOf : MethodName := ⟨RX9, "machineOf", "(I)I"⟩
abbrev cX9_store : ByteArray := prog_1_method_30_code
def yX9_store : MethodName := ⟨RX9, "store", "(II)I"⟩
abbrev cX9_queue : ByteArray := prog_1_method_31_code
def yX9_queue : MethodName := ⟨RX9, "queue", "(I)I"⟩
abbrev cX9_queued : ByteArray := prog_1_method_32_code
def yX9_queued : MethodName := ⟨RX9, "queued", "(II)I"⟩
abbrev cX9_told : ByteArray := prog_1_method_33_code
def yX9_told : MethodName := ⟨RX9, "told", "(II)I"⟩
abbrev cX9_why : ByteArray := prog_1_method_34_code
def yX9_why : MethodName := ⟨RX9, "why", "(II)I"⟩
abbrev cX9_latest : ByteArray := prog_1_method_35_code
def yX9_latest : MethodName := ⟨RX9, "latest", "(II)I"⟩
abbrev cX9_earliest : ByteArray := prog_1_method_36_code
def yX9_earliest : MethodName := ⟨RX9, "earliest", "(I)I"⟩
abbrev cX9_ledger : ByteArray := prog_1_method_37_code
def yX9_ledger : MethodName := ⟨RX9, "ledger", "(I)I"⟩
abbrev cX9_requireIndex : ByteArray := prog_1_method_38_code
def yX9_requireIndex : MethodName := ⟨RX9, "requireIndex", "(II)V"⟩
abbrev cX9_requireRange : ByteArray := prog_1_method_39_code
def yX9_requireRange : MethodName := ⟨RX9, "requireRange", "(III)V"⟩
abbrev cX9_requireArgument : ByteArray := prog_1_method_40_code
def yX9_requireArgument : MethodName := ⟨RX9, "requireArgument", "(Z)V"⟩
abbrev cX9_requireState : ByteArray := prog_1_method_41_code
def yX9_requireState : MethodName := ⟨RX9, "requireState", "(Z)V"⟩
abbrev cX9_kindAt : ByteArray := prog_1_method_42_code
def yX9_kindAt : MethodName := ⟨RX9, "kindAt", "(I)LMillrace$Kind;"⟩
abbrev cX9_kindOrNone : ByteArray := prog_1_method_43_code
def yX9_kindOrNone : MethodName := ⟨RX9, "kindOrNone", "(I)LMillrace$Kind;"⟩
abbrev cX9_machineAt : ByteArray := prog_1_method_44_code
def yX9_machineAt : MethodName := ⟨RX9, "machineAt", "(I)LMillrace$Machine;"⟩
abbrev cX9_personAt : ByteArray := prog_1_method_45_code
def yX9_personAt : MethodName := ⟨RX9, "personAt", "(I)LMillrace$Person;"⟩
abbrev cX9_batchAt : ByteArray := prog_1_method_46_code
def yX9_batchAt : MethodName := ⟨RX9, "batchAt", "(I)LMillrace$Batch;"⟩
abbrev cX9_orderAt : ByteArray := prog_1_method_47_code
def yX9_orderAt : MethodName := ⟨RX9, "orderAt", "(I)LMillrace$Order;"⟩
abbrev cX9_leadOf : ByteArray := prog_1_method_48_code
def yX9_leadOf : MethodName := ⟨RX9, "leadOf", "(LMillrace$Kind;)I"⟩
abbrev cX9_placed : ByteArray := prog_1_method_49_code
def yX9_placed : MethodName := ⟨RX9, "placed", "(JI)I"⟩
def RX10 : String := "MillraceModel"
def TX10 : u_T := fun k => match k with
  | 0 => ("MillraceModel", "states", "[I", true)
  | 1 => ("MillraceModel", "prices", "[I", true)
  | 2 => ("MillraceModel", "comings", "[I", true)
  | 3 => ("MillraceModel", "lineMany", "[I", true)
  | 4 => ("MillraceModel", "lineParts", "[I", true)
  | 5 => ("MillraceModel", "lineCounts", "[I", true)
  | 6 => ("MillraceModel", "lineOthers", "[I", true)
  | 7 => ("MillraceModel", "operationMany", "[I", true)
  | 8 => ("MillraceModel", "works", "[I", true)
  | 9 => ("MillraceModel", "skills", "[I", true)
  | 10 => ("MillraceModel", "workHours", "[I", true)
  | 11 => ("MillraceModel", "storeSizes", "[I", true)
  | 12 => ("MillraceModel", "queueSizes", "[I", true)
  | 13 => ("MillraceModel", "wasMade", "[Z", true)
  | 14 => ("MillraceModel", "batchMany", "I", false)
  | 15 => ("MillraceModel", "kinds", "[I", true)
  | 16 => ("MillraceModel", "pieces", "[I", true)
  | 17 => ("MillraceModel", "costs", "[I", true)
  | 18 => ("MillraceModel", "places", "[I", true)
  | 19 => ("MillraceModel", "operations", "[I", true)
  | 20 => ("MillraceModel", "priorities", "[I", true)
  | 21 => ("MillraceModel", "isFrozen", "[Z", true)
  | 22 => ("MillraceModel", "wasSentBack", "[Z", true)
  | 23 => ("MillraceModel", "faults", "[I", true)
  | 24 => ("MillraceModel", "isDrawn", "[Z", true)
  | 25 => ("MillraceModel", "comes", "[I", true)
  | 26 => ("MillraceModel", "parents", "[J", true)
  | 27 => ("MillraceModel", "machineMany", "I", false)
  | 28 => ("MillraceModel", "machineClasses", "[I", true)
  | 29 => ("MillraceModel", "setUps", "[I", true)
  | 30 => ("MillraceModel", "machineCosts", "[I", true)
  | 31 => ("MillraceModel", "limits", "[I", true)
  | 32 => ("MillraceModel", "repairs", "[I", true)
  | 33 => ("MillraceModel", "repairParts", "[I", true)
  | 34 => ("MillraceModel", "loads", "[I", true)
  | 35 => ("MillraceModel", "left", "[I", true)
  | 36 => ("MillraceModel", "workers", "[I", true)
  | 37 => ("MillraceModel", "wears", "[I", true)
  | 38 => ("MillraceModel", "lastKinds", "[I", true)
  | 39 => ("MillraceModel", "needs", "[I", true)
  | 40 => ("MillraceModel", "repairLeft", "[I", true)
  | 41 => ("MillraceModel", "personMany", "I", false)
  | 42 => ("MillraceModel", "wages", "[I", true)
  | 43 => ("MillraceModel", "begins", "[I", true)
  | 44 => ("MillraceModel", "shifts", "[I", true)
  | 45 => ("MillraceModel", "levels", "[I", true)
  | 46 => ("MillraceModel", "worked", "[I", true)
  | 47 => ("MillraceModel", "orderMany", "I", false)
  | 48 => ("MillraceModel", "orderKinds", "[I", true)
  | 49 => ("MillraceModel", "orderPieces", "[I", true)
  | 50 => ("MillraceModel", "dues", "[I", true)
  | 51 => ("MillraceModel", "promised", "[I", true)
  | 52 => ("MillraceModel", "orderBatches", "[I", true)
  | 53 => ("MillraceModel", "shippedAt", "[I", true)
  | 54 => ("MillraceModel", "stands", "Z", false)
  | 55 => ("MillraceModel", "hourNow", "I", false)
  | 56 => ("MillraceModel", "bought", "I", false)
  | 57 => ("MillraceModel", "workCost", "I", false)
  | 58 => ("MillraceModel", "repairCost", "I", false)
  | 59 => ("MillraceModel", "thrown", "I", false)
  | 60 => ("MillraceModel", "chosen", "[I", true)
  | _ => ("MillraceModel", "takes", "[I", true)
def tyX10 : Nat → FieldType := fun k => match k with
  | 0 => .array .int
  | 1 => .array .int
  | 2 => .array .int
  | 3 => .array .int
  | 4 => .array .int
  | 5 => .array .int
  | 6 => .array .int
  | 7 => .array .int
  | 8 => .array .int
  | 9 => .array .int
  | 10 => .array .int
  | 11 => .array .int
  | 12 => .array .int
  | 13 => .array .boolean
  | 14 => .int
  | 15 => .array .int
  | 16 => .array .int
  | 17 => .array .int
  | 18 => .array .int
  | 19 => .array .int
  | 20 => .array .int
  | 21 => .array .boolean
  | 22 => .array .boolean
  | 23 => .array .int
  | 24 => .array .boolean
  | 25 => .array .int
  | 26 => .array .long
  | 27 => .int
  | 28 => .array .int
  | 29 => .array .int
  | 30 => .array .int
  | 31 => .array .int
  | 32 => .array .int
  | 33 => .array .int
  | 34 => .array .int
  | 35 => .array .int
  | 36 => .array .int
  | 37 => .array .int
  | 38 => .array .int
  | 39 => .array .int
  | 40 => .array .int
  | 41 => .int
  | 42 => .array .int
  | 43 => .array .int
  | 44 => .array .int
  | 45 => .array .int
  | 46 => .array .int
  | 47 => .int
  | 48 => .array .int
  | 49 => .array .int
  | 50 => .array .int
  | 51 => .array .int
  | 52 => .array .int
  | 53 => .array .int
  | 54 => .boolean
  | 55 => .int
  | 56 => .int
  | 57 => .int
  | 58 => .int
  | 59 => .int
  | 60 => .array .int
  | _ => .array .int
theorem nmX10 : ∀ a, a < 62 → ∀ b, b < 62 → a ≠ b → (TX10 a).2.1 ≠ (TX10 b).2.1 := by decide +kernel
theorem tyX10_ok : ∀ k, k < 62 → parseFieldDescriptor (TX10 k).2.2.1 = some (tyX10 k) := by decide +kernel
abbrev cX10_init : ByteArray := prog_12_method_1_code
def yX10_init : MethodName := ⟨RX10, "<init>", "()V"⟩
abbrev cX10_thrown : ByteArray := prog_12_method_2_code
def yX10_thrown : MethodName := ⟨RX10, "thrown", "()I"⟩
abbrev cX10_in : ByteArray := prog_12_method_3_code
def yX10_in : MethodName := ⟨RX10, "in", "(III)Z"⟩
abbrev cX10_isKind : ByteArray := prog_12_method_4_code
def yX10_isKind : MethodName := ⟨RX10, "isKind", "(I)Z"⟩
abbrev cX10_isBatch : ByteArray := prog_12_method_5_code
def yX10_isBatch : MethodName := ⟨RX10, "isBatch", "(I)Z"⟩
abbrev cX10_setBought : ByteArray := prog_12_method_6_code
def yX10_setBought : MethodName := ⟨RX10, "setBought", "(III)V"⟩
abbrev cX10_addLine : ByteArray := prog_12_method_7_code
def yX10_addLine : MethodName := ⟨RX10, "addLine", "(IIII)I"⟩
abbrev cX10_addOperation : ByteArray := prog_12_method_8_code
def yX10_addOperation : MethodName := ⟨RX10, "addOperation", "(IIII)I"⟩
abbrev cX10_setStore : ByteArray := prog_12_method_9_code
def yX10_setStore : MethodName := ⟨RX10, "setStore", "(II)I"⟩
abbrev cX10_setQueue : ByteArray := prog_12_method_10_code
def yX10_setQueue : MethodName := ⟨RX10, "setQueue", "(II)I"⟩
abbrev cX10_addMachine : ByteArray := prog_12_method_11_code
def yX10_addMachine : MethodName := ⟨RX10, "addMachine", "(IIIIII)I"⟩
abbrev cX10_addPerson : ByteArray := prog_12_method_12_code
def yX10_addPerson : MethodName := ⟨RX10, "addPerson", "(III)I"⟩
abbrev cX10_isPlaceOf : ByteArray := prog_12_method_13_code
def yX10_isPlaceOf : MethodName := ⟨RX10, "isPlaceOf", "(II)Z"⟩
abbrev cX10_setLevel : ByteArray := prog_12_method_14_code
def yX10_setLevel : MethodName := ⟨RX10, "setLevel", "(III)I"⟩
abbrev cX10_isOnShift : ByteArray := prog_12_method_15_code
def yX10_isOnShift : MethodName := ⟨RX10, "isOnShift", "(I)Z"⟩
abbrev cX10_machineAt : ByteArray := prog_12_method_16_code
def yX10_machineAt : MethodName := ⟨RX10, "machineAt", "(I)I"⟩
abbrev cX10_workOf : ByteArray := prog_12_method_17_code
def yX10_workOf : MethodName := ⟨RX10, "workOf", "(I)I"⟩
abbrev cX10_waiting : ByteArray := prog_12_method_18_code
def yX10_waiting : MethodName := ⟨RX10, "waiting", "(I)I"⟩
abbrev cX10_hasRoom : ByteArray := prog_12_method_19_code
def yX10_hasRoom : MethodName := ⟨RX10, "hasRoom", "(I)Z"⟩
abbrev cX10_inStore : ByteArray := prog_12_method_20_code
def yX10_inStore : MethodName := ⟨RX10, "inStore", "(I)I"⟩
abbrev cX10_promisedOf : ByteArray := prog_12_method_21_code
def yX10_promisedOf : MethodName := ⟨RX10, "promisedOf", "(I)I"⟩
abbrev cX10_free : ByteArray := prog_12_method_22_code
def yX10_free : MethodName := ⟨RX10, "free", "(I)I"⟩
abbrev cX10_newBatch : ByteArray := prog_12_method_23_code
def yX10_newBatch : MethodName := ⟨RX10, "newBatch", "(III)I"⟩
abbrev cX10_buy : ByteArray := prog_12_method_24_code
def yX10_buy : MethodName := ⟨RX10, "buy", "(II)I"⟩
abbrev cX10_late : ByteArray := prog_12_method_25_code
def yX10_late : MethodName := ⟨RX10, "late", "(II)I"⟩
abbrev cX10_make : ByteArray := prog_12_method_26_code
def yX10_make : MethodName := ⟨RX10, "make", "(III)I"⟩
abbrev cX10_rank : ByteArray := prog_12_method_27_code
def yX10_rank : MethodName := ⟨RX10, "rank", "(IIZ)Z"⟩
abbrev cX10_takeFrom : ByteArray := prog_12_method_28_code
def yX10_takeFrom : MethodName := ⟨RX10, "takeFrom", "(III)V"⟩
abbrev cX10_costOf : ByteArray := prog_12_method_29_code
def yX10_costOf : MethodName := ⟨RX10, "costOf", "(II)I"⟩
abbrev cX10_takeKind : ByteArray := prog_12_method_30_code
def yX10_takeKind : MethodName := ⟨RX10, "takeKind", "(III)V"⟩
abbrev cX10_split : ByteArray := prog_12_method_31_code
def yX10_split : MethodName := ⟨RX10, "split", "(II)I"⟩
abbrev cX10_canJoin : ByteArray := prog_12_method_32_code
def yX10_canJoin : MethodName := ⟨RX10, "canJoin", "(II)Z"⟩
abbrev cX10_join : ByteArray := prog_12_method_33_code
def yX10_join : MethodName := ⟨RX10, "join", "(II)I"⟩
abbrev cX10_leave : ByteArray := prog_12_method_34_code
def yX10_leave : MethodName := ⟨RX10, "leave", "(I)V"⟩
abbrev cX10_scrap : ByteArray := prog_12_method_35_code
def yX10_scrap : MethodName := ⟨RX10, "scrap", "(I)V"⟩
abbrev cX10_settlePromises : ByteArray := prog_12_method_36_code
def yX10_settlePromises : MethodName := ⟨RX10, "settlePromises", "()V"⟩
abbrev cX10_recall : ByteArray := prog_12_method_37_code
def yX10_recall : MethodName := ⟨RX10, "recall", "(I)I"⟩
abbrev cX10_isOrder : ByteArray := prog_12_method_38_code
def yX10_isOrder : MethodName := ⟨RX10, "isOrder", "(I)Z"⟩
abbrev cX10_order : ByteArray := prog_12_method_39_code
def yX10_order : MethodName := ⟨RX10, "order", "(III)I"⟩
abbrev cX10_promise : ByteArray := prog_12_method_40_code
def yX10_promise : MethodName := ⟨RX10, "promise", "(I)I"⟩
abbrev cX10_ship : ByteArray := prog_12_method_41_code
def yX10_ship : MethodName := ⟨RX10, "ship", "(I)I"⟩
abbrev cX10_arrive : ByteArray := prog_12_method_42_code
def yX10_arrive : MethodName := ⟨RX10, "arrive", "()V"⟩
abbrev cX10_workOn : ByteArray := prog_12_method_43_code
def yX10_workOn : MethodName := ⟨RX10, "workOn", "(I)V"⟩
abbrev cX10_found : ByteArray := prog_12_method_44_code
def yX10_found : MethodName := ⟨RX10, "found", "(I)I"⟩
abbrev cX10_finish : ByteArray := prog_12_method_45_code
def yX10_finish : MethodName := ⟨RX10, "finish", "(I)V"⟩
abbrev cX10_work : ByteArray := prog_12_method_46_code
def yX10_work : MethodName := ⟨RX10, "work", "()V"⟩
abbrev cX10_repair : ByteArray := prog_12_method_47_code
def yX10_repair : MethodName := ⟨RX10, "repair", "()V"⟩
abbrev cX10_personFor : ByteArray := prog_12_method_48_code
def yX10_personFor : MethodName := ⟨RX10, "personFor", "(I)I"⟩
abbrev cX10_needsParts : ByteArray := prog_12_method_49_code
def yX10_needsParts : MethodName := ⟨RX10, "needsParts", "(I)Z"⟩
abbrev cX10_hasParts : ByteArray := prog_12_method_50_code
def yX10_hasParts : MethodName := ⟨RX10, "hasParts", "(I)Z"⟩
abbrev cX10_freeBehind : ByteArray := prog_12_method_51_code
def yX10_freeBehind : MethodName := ⟨RX10, "freeBehind", "(III)I"⟩
abbrev cX10_canBegin : ByteArray := prog_12_method_52_code
def yX10_canBegin : MethodName := ⟨RX10, "canBegin", "(I)Z"⟩
abbrev cX10_canDo : ByteArray := prog_12_method_53_code
def yX10_canDo : MethodName := ⟨RX10, "canDo", "(II)Z"⟩
abbrev cX10_begin : ByteArray := prog_12_method_54_code
def yX10_begin : MethodName := ⟨RX10, "begin", "(II)V"⟩
abbrev cX10_take : ByteArray := prog_12_method_55_code
def yX10_take : MethodName := ⟨RX10, "take", "()V"⟩
abbrev cX10_stand : ByteArray := prog_12_method_56_code
def yX10_stand : MethodName := ⟨RX10, "stand", "(Z)Z"⟩
abbrev cX10_run : ByteArray := prog_12_method_57_code
def yX10_run : MethodName := ⟨RX10, "run", "(I)I"⟩
abbrev cX10_hour : ByteArray := prog_12_method_58_code
def yX10_hour : MethodName := ⟨RX10, "hour", "()I"⟩
abbrev cX10_batches : ByteArray := prog_12_method_59_code
def yX10_batches : MethodName := ⟨RX10, "batches", "()I"⟩
abbrev cX10_batch : ByteArray := prog_12_method_60_code
def yX10_batch : MethodName := ⟨RX10, "batch", "(II)I"⟩
abbrev cX10_manyOf : ByteArray := prog_12_method_61_code
def yX10_manyOf : MethodName := ⟨RX10, "manyOf", "(J)I"⟩
abbrev cX10_ofSet : ByteArray := prog_12_method_62_code
def yX10_ofSet : MethodName := ⟨RX10, "ofSet", "(JI)I"⟩
abbrev cX10_asksAt : ByteArray := prog_12_method_63_code
def yX10_asksAt : MethodName := ⟨RX10, "asksAt", "(ZI)Z"⟩
abbrev cX10_parent : ByteArray := prog_12_method_64_code
def yX10_parent : MethodName := ⟨RX10, "parent", "(II)I"⟩
abbrev cX10_origin : ByteArray := prog_12_method_65_code
def yX10_origin : MethodName := ⟨RX10, "origin", "(II)I"⟩
abbrev cX10_machine : ByteArray := prog_12_method_66_code
def yX10_machine : MethodName := ⟨RX10, "machine", "(II)I"⟩
abbrev cX10_level : ByteArray := prog_12_method_67_code
def yX10_level : MethodName := ⟨RX10, "level", "(II)I"⟩
abbrev cX10_machineOf : ByteArray := prog_12_method_68_code
def yX10_machineOf : MethodName := ⟨RX10, "machineOf", "(I)I"⟩
abbrev cX10_store : ByteArray := prog_12_method_69_code
def yX10_store : MethodName := ⟨RX10, "store", "(II)I"⟩
abbrev cX10_queue : ByteArray := prog_12_method_70_code
def yX10_queue : MethodName := ⟨RX10, "queue", "(I)I"⟩
abbrev cX10_queued : ByteArray := prog_12_method_71_code
def yX10_queued : MethodName := ⟨RX10, "queued", "(II)I"⟩
abbrev cX10_told : ByteArray := prog_12_method_72_code
def yX10_told : MethodName := ⟨RX10, "told", "(II)I"⟩
abbrev cX10_why : ByteArray := prog_12_method_73_code
def yX10_why : MethodName := ⟨RX10, "why", "(II)I"⟩
abbrev cX10_hoursOf : ByteArray := prog_12_method_74_code
def yX10_hoursOf : MethodName := ⟨RX10, "hoursOf", "(I)I"⟩
abbrev cX10_latest : ByteArray := prog_12_method_75_code
def yX10_latest : MethodName := ⟨RX10, "latest", "(II)I"⟩
abbrev cX10_earliest : ByteArray := prog_12_method_76_code
def yX10_earliest : MethodName := ⟨RX10, "earliest", "(I)I"⟩
abbrev cX10_ledger : ByteArray := prog_12_method_77_code
def yX10_ledger : MethodName := ⟨RX10, "ledger", "(I)I"⟩
def RJ13 : String := "java/lang/Long"
def TJ13 : u_T := fun k => match k with
  | _ => ("", "", "", false)
def tyJ13 : Nat → FieldType := fun k => match k with
  | _ => .int
theorem nmJ13 : ∀ a, a < 0 → ∀ b, b < 0 → a ≠ b → (TJ13 a).2.1 ≠ (TJ13 b).2.1 := by decide +kernel
theorem tyJ13_ok : ∀ k, k < 0 → parseFieldDescriptor (TJ13 k).2.2.1 = some (tyJ13 k) := by decide +kernel
abbrev cJ13_bitCount_95d88 : ByteArray := prog_17_method_50_code
def yJ13_bitCount_95d88 : MethodName := ⟨RJ13, "bitCount", "(J)I"⟩
def RJ9 : String := "java/lang/Math"
def TJ9 : u_T := fun k => match k with
  | _ => ("", "", "", false)
def tyJ9 : Nat → FieldType := fun k => match k with
  | _ => .int
theorem nmJ9 : ∀ a, a < 0 → ∀ b, b < 0 → a ≠ b → (TJ9 a).2.1 ≠ (TJ9 b).2.1 := by decide +kernel
theorem tyJ9_ok : ∀ k, k < 0 → parseFieldDescriptor (TJ9 k).2.2.1 = some (tyJ9 k) := by decide +kernel
abbrev cJ9_floorMod_7cf53 : ByteArray := prog_18_method_50_code
def yJ9_floorMod_7cf53 : MethodName := ⟨RJ9, "floorMod", "(II)I"⟩
abbrev cJ9_max_7cf53 : ByteArray := prog_18_method_65_code
def yJ9_max_7cf53 : MethodName := ⟨RJ9, "max", "(II)I"⟩
abbrev cJ9_min_7cf53 : ByteArray := prog_18_method_69_code
def yJ9_min_7cf53 : MethodName := ⟨RJ9, "min", "(II)I"⟩
def RJ0 : String := "java/lang/String"
def TJ0 : u_T := fun k => match k with
  | _ => ("", "", "", false)
def tyJ0 : Nat → FieldType := fun k => match k with
  | _ => .int
theorem nmJ0 : ∀ a, a < 0 → ∀ b, b < 0 → a ≠ b → (TJ0 a).2.1 ≠ (TJ0 b).2.1 := by decide +kernel
theorem tyJ0_ok : ∀ k, k < 0 → parseFieldDescriptor (TJ0 k).2.2.1 = some (tyJ0 k) := by decide +kernel
def RL : String := "MillraceLaw"
def yL_setBought : MethodName := ⟨RL, "setBought", "(LMillrace;III)I"⟩
def yL_addLine : MethodName := ⟨RL, "addLine", "(LMillrace;IIII[J)I"⟩
def yL_addOperation : MethodName := ⟨RL, "addOperation", "(LMillrace;IIII[J)I"⟩
def yL_setStore : MethodName := ⟨RL, "setStore", "(LMillrace;II[J)I"⟩
def yL_setQueue : MethodName := ⟨RL, "setQueue", "(LMillrace;II[J)I"⟩
def yL_addMachine : MethodName := ⟨RL, "addMachine", "(LMillrace;IIIIII[J)I"⟩
def yL_addPerson : MethodName := ⟨RL, "addPerson", "(LMillrace;III[J)I"⟩
def yL_setLevel : MethodName := ⟨RL, "setLevel", "(LMillrace;III[J)I"⟩
def yL_buy : MethodName := ⟨RL, "buy", "(LMillrace;II[J)I"⟩
def yL_late : MethodName := ⟨RL, "late", "(LMillrace;II[J)I"⟩
def yL_make : MethodName := ⟨RL, "make", "(LMillrace;III[J)I"⟩
def yL_rank : MethodName := ⟨RL, "rank", "(LMillrace;IIZ[J)I"⟩
def yL_split : MethodName := ⟨RL, "split", "(LMillrace;II[J)I"⟩
def yL_join : MethodName := ⟨RL, "join", "(LMillrace;II[J)I"⟩
def yL_recall : MethodName := ⟨RL, "recall", "(LMillrace;I[J)I"⟩
def yL_order : MethodName := ⟨RL, "order", "(LMillrace;III[J)I"⟩
def yL_promise : MethodName := ⟨RL, "promise", "(LMillrace;I[J)I"⟩
def yL_ship : MethodName := ⟨RL, "ship", "(LMillrace;I[J)I"⟩
def yL_run : MethodName := ⟨RL, "run", "(LMillrace;I[J)I"⟩
def yL_batch : MethodName := ⟨RL, "batch", "(LMillrace;II[J)I"⟩
def yL_parent : MethodName := ⟨RL, "parent", "(LMillrace;II[J)I"⟩
def yL_origin : MethodName := ⟨RL, "origin", "(LMillrace;II[J)I"⟩
def yL_machine : MethodName := ⟨RL, "machine", "(LMillrace;II[J)I"⟩
def yL_level : MethodName := ⟨RL, "level", "(LMillrace;II[J)I"⟩
def yL_machineOf : MethodName := ⟨RL, "machineOf", "(LMillrace;I[J)I"⟩
def yL_store : MethodName := ⟨RL, "store", "(LMillrace;II[J)I"⟩
def yL_queue : MethodName := ⟨RL, "queue", "(LMillrace;I[J)I"⟩
def yL_queued : MethodName := ⟨RL, "queued", "(LMillrace;II[J)I"⟩
def yL_told : MethodName := ⟨RL, "told", "(LMillrace;II[J)I"⟩
def yL_why : MethodName := ⟨RL, "why", "(LMillrace;II[J)I"⟩
def yL_latest : MethodName := ⟨RL, "latest", "(LMillrace;II[J)I"⟩
def yL_earliest : MethodName := ⟨RL, "earliest", "(LMillrace;I[J)I"⟩
def yL_ledger : MethodName := ⟨RL, "ledger", "(LMillrace;I[J)I"⟩
def yL_law : MethodName := ⟨RL, "law", "([I)Z"⟩
theorem dX0_init_0 : decode cX0_init 0 = .ok (.aload_n 0, 1) := by decide +kernel
theorem dX0_init_1 : decode cX0_init 1 = .ok (.invokespecial 3, 3) := by decide +kernel
theorem dX0_init_4 : decode cX0_init 4 = .ok (.aload_n 0, 1) := by decide +kernel
theorem dX0_init_5 : decode cX0_init 5 = .ok (.iconst (-1), 1) := by decide +kernel
theorem dX0_init_6 : decode cX0_init 6 = .ok (.putfield 9, 3) := by decide +kernel
theorem dX0_init_9 : decode cX0_init 9 = .ok (.aload_n 0, 1) := by decide +kernel
theorem dX0_init_10 : decode cX0_init 10 = .ok (.iload_n 1, 1) := by decide +kernel
theorem dX0_init_11 : decode cX0_init 11 = .ok (.putfield 15, 3) := by decide +kernel
theorem dX0_init_14 : decode cX0_init 14 = .ok (.aload_n 0, 1) := by decide +kernel
theorem dX0_init_15 : decode cX0_init 15 = .ok (.aload_n 2, 1) := by decide +kernel
theorem dX0_init_16 : decode cX0_init 16 = .ok (.putfield 18, 3) := by decide +kernel
theorem dX0_init_19 : decode cX0_init 19 = .ok (.aload_n 0, 1) := by decide +kernel
theorem dX0_init_20 : decode cX0_init 20 = .ok (.iload_n 3, 1) := by decide +kernel
theorem dX0_init_21 : decode cX0_init 21 = .ok (.putfield 22, 3) := by decide +kernel
theorem dX0_init_24 : decode cX0_init 24 = .ok (.aload_n 0, 1) := by decide +kernel
theorem dX0_init_25 : decode cX0_init 25 = .ok (.iload 4, 2) := by decide +kernel
theorem dX0_init_27 : decode cX0_init 27 = .ok (.putfield 25, 3) := by decide +kernel
theorem dX0_init_30 : decode cX0_init 30 = .ok (.return_, 1) := by decide +kernel
theorem dX0_bit_0 : decode cX0_bit 0 = .ok (.lconst 1, 1) := by decide +kernel
theorem dX0_bit_1 : decode cX0_bit 1 = .ok (.aload_n 0, 1) := by decide +kernel
theorem dX0_bit_2 : decode cX0_bit 2 = .ok (.getfield 15, 3) := by decide +kernel
theorem dX0_bit_5 : decode cX0_bit 5 = .ok (.lshl, 1) := by decide +kernel
theorem dX0_bit_6 : decode cX0_bit 6 = .ok (.lreturn, 1) := by decide +kernel
theorem dX0_wasBought_0 : decode cX0_wasBought 0 = .ok (.aload_n 0, 1) := by decide +kernel
theorem dX0_wasBought_1 : decode cX0_wasBought 1 = .ok (.getfield 9, 3) := by decide +kernel
theorem dX0_wasBought_4 : decode cX0_wasBought 4 = .ok (.iconst (-1), 1) := by decide +kernel
theorem dX0_wasBought_5 : decode cX0_wasBought 5 = .ok (.if_icmp .eq 7, 3) := by decide +kernel
theorem dX0_wasBought_8 : decode cX0_wasBought 8 = .ok (.iconst 1, 1) := by decide +kernel
theorem dX0_wasBought_9 : decode cX0_wasBought 9 = .ok (.goto 4, 3) := by decide +kernel
theorem dX0_wasBought_12 : decode cX0_wasBought 12 = .ok (.iconst 0, 1) := by decide +kernel
theorem dX0_wasBought_13 : decode cX0_wasBought 13 = .ok (.ireturn, 1) := by decide +kernel
theorem dX0_operationNow_0 : decode cX0_operationNow 0 = .ok (.aload_n 0, 1) := by decide +kernel
theorem dX0_operationNow_1 : decode cX0_operationNow 1 = .ok (.getfield 18, 3) := by decide +kernel
theorem dX0_operationNow_4 : decode cX0_operationNow 4 = .ok (.aload_n 0, 1) := by decide +kernel
theorem dX0_operationNow_5 : decode cX0_operationNow 5 = .ok (.getfield 28, 3) := by decide +kernel
theorem dX0_operationNow_8 : decode cX0_operationNow 8 = .ok (.invokevirtual 31, 3) := by decide +kernel
theorem dX0_operationNow_11 : decode cX0_operationNow 11 = .ok (.areturn, 1) := by decide +kernel
theorem dX0_waitsFor_0 : decode cX0_waitsFor 0 = .ok (.aload_n 0, 1) := by decide +kernel
theorem dX0_waitsFor_1 : decode cX0_waitsFor 1 = .ok (.getfield 25, 3) := by decide +kernel
theorem dX0_waitsFor_4 : decode cX0_waitsFor 4 = .ok (.iconst 1, 1) := by decide +kernel
theorem dX0_waitsFor_5 : decode cX0_waitsFor 5 = .ok (.if_icmp .ne 17, 3) := by decide +kernel
theorem dX0_waitsFor_8 : decode cX0_waitsFor 8 = .ok (.aload_n 0, 1) := by decide +kernel
theorem dX0_waitsFor_9 : decode cX0_waitsFor 9 = .ok (.getfield 18, 3) := by decide +kernel
theorem dX0_waitsFor_12 : decode cX0_waitsFor 12 = .ok (.aload_n 0, 1) := by decide +kernel
theorem dX0_waitsFor_13 : decode cX0_waitsFor 13 = .ok (.getfield 28, 3) := by decide +kernel
theorem dX0_waitsFor_16 : decode cX0_waitsFor 16 = .ok (.invokevirtual 31, 3) := by decide +kernel
theorem dX0_waitsFor_19 : decode cX0_waitsFor 19 = .ok (.goto 4, 3) := by decide +kernel
theorem dX0_waitsFor_22 : decode cX0_waitsFor 22 = .ok (.aconst_null, 1) := by decide +kernel
theorem dX0_waitsFor_23 : decode cX0_waitsFor 23 = .ok (.astore_n 2, 1) := by decide +kernel
theorem dX0_waitsFor_24 : decode cX0_waitsFor 24 = .ok (.aload_n 2, 1) := by decide +kernel
theorem dX0_waitsFor_25 : decode cX0_waitsFor 25 = .ok (.ifnull 15, 3) := by decide +kernel
theorem dX0_waitsFor_28 : decode cX0_waitsFor 28 = .ok (.aload_n 2, 1) := by decide +kernel
theorem dX0_waitsFor_29 : decode cX0_waitsFor 29 = .ok (.getfield 37, 3) := by decide +kernel
theorem dX0_waitsFor_32 : decode cX0_waitsFor 32 = .ok (.iload_n 1, 1) := by decide +kernel
theorem dX0_waitsFor_33 : decode cX0_waitsFor 33 = .ok (.if_icmp .ne 7, 3) := by decide +kernel
theorem dX0_waitsFor_36 : decode cX0_waitsFor 36 = .ok (.iconst 1, 1) := by decide +kernel
theorem dX0_waitsFor_37 : decode cX0_waitsFor 37 = .ok (.goto 4, 3) := by decide +kernel
theorem dX0_waitsFor_40 : decode cX0_waitsFor 40 = .ok (.iconst 0, 1) := by decide +kernel
theorem dX0_waitsFor_41 : decode cX0_waitsFor 41 = .ok (.ireturn, 1) := by decide +kernel
theorem dX0_canJoin_0 : decode cX0_canJoin 0 = .ok (.aload_n 0, 1) := by decide +kernel
theorem dX0_canJoin_1 : decode cX0_canJoin 1 = .ok (.getfield 25, 3) := by decide +kernel
theorem dX0_canJoin_4 : decode cX0_canJoin 4 = .ok (.iconst 1, 1) := by decide +kernel
theorem dX0_canJoin_5 : decode cX0_canJoin 5 = .ok (.if_icmp .ne 51, 3) := by decide +kernel
theorem dX0_canJoin_8 : decode cX0_canJoin 8 = .ok (.aload_n 1, 1) := by decide +kernel
theorem dX0_canJoin_9 : decode cX0_canJoin 9 = .ok (.getfield 25, 3) := by decide +kernel
theorem dX0_canJoin_12 : decode cX0_canJoin 12 = .ok (.iconst 1, 1) := by decide +kernel
theorem dX0_canJoin_13 : decode cX0_canJoin 13 = .ok (.if_icmp .ne 43, 3) := by decide +kernel
theorem dX0_canJoin_16 : decode cX0_canJoin 16 = .ok (.aload_n 0, 1) := by decide +kernel
theorem dX0_canJoin_17 : decode cX0_canJoin 17 = .ok (.getfield 42, 3) := by decide +kernel
theorem dX0_canJoin_20 : decode cX0_canJoin 20 = .ok (.ifCond .ne 36, 3) := by decide +kernel
theorem dX0_canJoin_23 : decode cX0_canJoin 23 = .ok (.aload_n 1, 1) := by decide +kernel
theorem dX0_canJoin_24 : decode cX0_canJoin 24 = .ok (.getfield 42, 3) := by decide +kernel
theorem dX0_canJoin_27 : decode cX0_canJoin 27 = .ok (.ifCond .ne 29, 3) := by decide +kernel
theorem dX0_canJoin_30 : decode cX0_canJoin 30 = .ok (.aload_n 0, 1) := by decide +kernel
theorem dX0_canJoin_31 : decode cX0_canJoin 31 = .ok (.getfield 18, 3) := by decide +kernel
theorem dX0_canJoin_34 : decode cX0_canJoin 34 = .ok (.aload_n 1, 1) := by decide +kernel
theorem dX0_canJoin_35 : decode cX0_canJoin 35 = .ok (.getfield 18, 3) := by decide +kernel
theorem dX0_canJoin_38 : decode cX0_canJoin 38 = .ok (.if_acmp .ne 18, 3) := by decide +kernel
theorem dX0_canJoin_41 : decode cX0_canJoin 41 = .ok (.aload_n 0, 1) := by decide +kernel
theorem dX0_canJoin_42 : decode cX0_canJoin 42 = .ok (.getfield 28, 3) := by decide +kernel
theorem dX0_canJoin_45 : decode cX0_canJoin 45 = .ok (.aload_n 1, 1) := by decide +kernel
theorem dX0_canJoin_46 : decode cX0_canJoin 46 = .ok (.getfield 28, 3) := by decide +kernel
theorem dX0_canJoin_49 : decode cX0_canJoin 49 = .ok (.if_icmp .ne 7, 3) := by decide +kernel
theorem dX0_canJoin_52 : decode cX0_canJoin 52 = .ok (.iconst 1, 1) := by decide +kernel
theorem dX0_canJoin_53 : decode cX0_canJoin 53 = .ok (.goto 4, 3) := by decide +kernel
theorem dX0_canJoin_56 : decode cX0_canJoin 56 = .ok (.iconst 0, 1) := by decide +kernel
theorem dX0_canJoin_57 : decode cX0_canJoin 57 = .ok (.ireturn, 1) := by decide +kernel
theorem dX0_takesParts_0 : decode cX0_takesParts 0 = .ok (.aload_n 0, 1) := by decide +kernel
theorem dX0_takesParts_1 : decode cX0_takesParts 1 = .ok (.getfield 28, 3) := by decide +kernel
theorem dX0_takesParts_4 : decode cX0_takesParts 4 = .ok (.ifCond .ne 14, 3) := by decide +kernel
theorem dX0_takesParts_7 : decode cX0_takesParts 7 = .ok (.aload_n 0, 1) := by decide +kernel
theorem dX0_takesParts_8 : decode cX0_takesParts 8 = .ok (.getfield 46, 3) := by decide +kernel
theorem dX0_takesParts_11 : decode cX0_takesParts 11 = .ok (.ifCond .ne 7, 3) := by decide +kernel
theorem dX0_takesParts_14 : decode cX0_takesParts 14 = .ok (.iconst 1, 1) := by decide +kernel
theorem dX0_takesParts_15 : decode cX0_takesParts 15 = .ok (.goto 4, 3) := by decide +kernel
theorem dX0_takesParts_18 : decode cX0_takesParts 18 = .ok (.iconst 0, 1) := by decide +kernel
theorem dX0_takesParts_19 : decode cX0_takesParts 19 = .ok (.ireturn, 1) := by decide +kernel
theorem dX0_giveUp_0 : decode cX0_giveUp 0 = .ok (.aload_n 0, 1) := by decide +kernel
theorem dX0_giveUp_1 : decode cX0_giveUp 1 = .ok (.getfield 22, 3) := by decide +kernel
theorem dX0_giveUp_4 : decode cX0_giveUp 4 = .ok (.ifCond .gt 5, 3) := by decide +kernel
theorem dX0_giveUp_7 : decode cX0_giveUp 7 = .ok (.iconst 0, 1) := by decide +kernel
theorem dX0_giveUp_8 : decode cX0_giveUp 8 = .ok (.ireturn, 1) := by decide +kernel
theorem dX0_giveUp_9 : decode cX0_giveUp 9 = .ok (.aload_n 0, 1) := by decide +kernel
theorem dX0_giveUp_10 : decode cX0_giveUp 10 = .ok (.getfield 49, 3) := by decide +kernel
theorem dX0_giveUp_13 : decode cX0_giveUp 13 = .ok (.i2l, 1) := by decide +kernel
theorem dX0_giveUp_14 : decode cX0_giveUp 14 = .ok (.iload_n 1, 1) := by decide +kernel
theorem dX0_giveUp_15 : decode cX0_giveUp 15 = .ok (.i2l, 1) := by decide +kernel
theorem dX0_giveUp_16 : decode cX0_giveUp 16 = .ok (.lmul, 1) := by decide +kernel
theorem dX0_giveUp_17 : decode cX0_giveUp 17 = .ok (.aload_n 0, 1) := by decide +kernel
theorem dX0_giveUp_18 : decode cX0_giveUp 18 = .ok (.getfield 22, 3) := by decide +kernel
theorem dX0_giveUp_21 : decode cX0_giveUp 21 = .ok (.i2l, 1) := by decide +kernel
theorem dX0_giveUp_22 : decode cX0_giveUp 22 = .ok (.ldiv, 1) := by decide +kernel
theorem dX0_giveUp_23 : decode cX0_giveUp 23 = .ok (.l2i, 1) := by decide +kernel
theorem dX0_giveUp_24 : decode cX0_giveUp 24 = .ok (.istore_n 2, 1) := by decide +kernel
theorem dX0_giveUp_25 : decode cX0_giveUp 25 = .ok (.aload_n 0, 1) := by decide +kernel
theorem dX0_giveUp_26 : decode cX0_giveUp 26 = .ok (.dup, 1) := by decide +kernel
theorem dX0_giveUp_27 : decode cX0_giveUp 27 = .ok (.getfield 49, 3) := by decide +kernel
theorem dX0_giveUp_30 : decode cX0_giveUp 30 = .ok (.iload_n 2, 1) := by decide +kernel
theorem dX0_giveUp_31 : decode cX0_giveUp 31 = .ok (.isub, 1) := by decide +kernel
theorem dX0_giveUp_32 : decode cX0_giveUp 32 = .ok (.putfield 49, 3) := by decide +kernel
theorem dX0_giveUp_35 : decode cX0_giveUp 35 = .ok (.aload_n 0, 1) := by decide +kernel
theorem dX0_giveUp_36 : decode cX0_giveUp 36 = .ok (.dup, 1) := by decide +kernel
theorem dX0_giveUp_37 : decode cX0_giveUp 37 = .ok (.getfield 22, 3) := by decide +kernel
theorem dX0_giveUp_40 : decode cX0_giveUp 40 = .ok (.iload_n 1, 1) := by decide +kernel
theorem dX0_giveUp_41 : decode cX0_giveUp 41 = .ok (.isub, 1) := by decide +kernel
theorem dX0_giveUp_42 : decode cX0_giveUp 42 = .ok (.putfield 22, 3) := by decide +kernel
theorem dX0_giveUp_45 : decode cX0_giveUp 45 = .ok (.aload_n 0, 1) := by decide +kernel
theorem dX0_giveUp_46 : decode cX0_giveUp 46 = .ok (.getfield 22, 3) := by decide +kernel
theorem dX0_giveUp_49 : decode cX0_giveUp 49 = .ok (.ifCond .ne 8, 3) := by decide +kernel
theorem dX0_giveUp_52 : decode cX0_giveUp 52 = .ok (.aload_n 0, 1) := by decide +kernel
theorem dX0_giveUp_53 : decode cX0_giveUp 53 = .ok (.iconst 4, 1) := by decide +kernel
theorem dX0_giveUp_54 : decode cX0_giveUp 54 = .ok (.putfield 25, 3) := by decide +kernel
theorem dX0_giveUp_57 : decode cX0_giveUp 57 = .ok (.iload_n 2, 1) := by decide +kernel
theorem dX0_giveUp_58 : decode cX0_giveUp 58 = .ok (.ireturn, 1) := by decide +kernel
theorem dX0_foundFault_0 : decode cX0_foundFault 0 = .ok (.aload_n 0, 1) := by decide +kernel
theorem dX0_foundFault_1 : decode cX0_foundFault 1 = .ok (.getfield 18, 3) := by decide +kernel
theorem dX0_foundFault_4 : decode cX0_foundFault 4 = .ok (.getfield 52, 3) := by decide +kernel
theorem dX0_foundFault_7 : decode cX0_foundFault 7 = .ok (.iconst 1, 1) := by decide +kernel
theorem dX0_foundFault_8 : decode cX0_foundFault 8 = .ok (.isub, 1) := by decide +kernel
theorem dX0_foundFault_9 : decode cX0_foundFault 9 = .ok (.istore_n 1, 1) := by decide +kernel
theorem dX0_foundFault_10 : decode cX0_foundFault 10 = .ok (.iconst 0, 1) := by decide +kernel
theorem dX0_foundFault_11 : decode cX0_foundFault 11 = .ok (.istore_n 2, 1) := by decide +kernel
theorem dX0_foundFault_12 : decode cX0_foundFault 12 = .ok (.iload_n 2, 1) := by decide +kernel
theorem dX0_foundFault_13 : decode cX0_foundFault 13 = .ok (.aload_n 0, 1) := by decide +kernel
theorem dX0_foundFault_14 : decode cX0_foundFault 14 = .ok (.getfield 28, 3) := by decide +kernel
theorem dX0_foundFault_17 : decode cX0_foundFault 17 = .ok (.if_icmp .gt 51, 3) := by decide +kernel
theorem dX0_foundFault_20 : decode cX0_foundFault 20 = .ok (.iload_n 2, 1) := by decide +kernel
theorem dX0_foundFault_21 : decode cX0_foundFault 21 = .ok (.iload_n 1, 1) := by decide +kernel
theorem dX0_foundFault_22 : decode cX0_foundFault 22 = .ok (.if_icmp .gt 46, 3) := by decide +kernel
theorem dX0_foundFault_25 : decode cX0_foundFault 25 = .ok (.iload_n 2, 1) := by decide +kernel
theorem dX0_foundFault_26 : decode cX0_foundFault 26 = .ok (.iconst 2, 1) := by decide +kernel
theorem dX0_foundFault_27 : decode cX0_foundFault 27 = .ok (.iadd, 1) := by decide +kernel
theorem dX0_foundFault_28 : decode cX0_foundFault 28 = .ok (.iload_n 1, 1) := by decide +kernel
theorem dX0_foundFault_29 : decode cX0_foundFault 29 = .ok (.invokestatic 55, 3) := by decide +kernel
theorem dX0_foundFault_32 : decode cX0_foundFault 32 = .ok (.aload_n 0, 1) := by decide +kernel
theorem dX0_foundFault_33 : decode cX0_foundFault 33 = .ok (.getfield 28, 3) := by decide +kernel
theorem dX0_foundFault_36 : decode cX0_foundFault 36 = .ok (.if_icmp .gt 7, 3) := by decide +kernel
theorem dX0_foundFault_39 : decode cX0_foundFault 39 = .ok (.iconst 1, 1) := by decide +kernel
theorem dX0_foundFault_40 : decode cX0_foundFault 40 = .ok (.goto 4, 3) := by decide +kernel
theorem dX0_foundFault_43 : decode cX0_foundFault 43 = .ok (.iconst 0, 1) := by decide +kernel
theorem dX0_foundFault_44 : decode cX0_foundFault 44 = .ok (.istore_n 3, 1) := by decide +kernel
theorem dX0_foundFault_45 : decode cX0_foundFault 45 = .ok (.iload_n 3, 1) := by decide +kernel
theorem dX0_foundFault_46 : decode cX0_foundFault 46 = .ok (.ifCond .eq 16, 3) := by decide +kernel
theorem dX0_foundFault_49 : decode cX0_foundFault 49 = .ok (.aload_n 0, 1) := by decide +kernel
theorem dX0_foundFault_50 : decode cX0_foundFault 50 = .ok (.getfield 61, 3) := by decide +kernel
theorem dX0_foundFault_53 : decode cX0_foundFault 53 = .ok (.iload_n 2, 1) := by decide +kernel
theorem dX0_foundFault_54 : decode cX0_foundFault 54 = .ok (.ishr, 1) := by decide +kernel
theorem dX0_foundFault_55 : decode cX0_foundFault 55 = .ok (.iconst 1, 1) := by decide +kernel
theorem dX0_foundFault_56 : decode cX0_foundFault 56 = .ok (.iand, 1) := by decide +kernel
theorem dX0_foundFault_57 : decode cX0_foundFault 57 = .ok (.ifCond .eq 5, 3) := by decide +kernel
theorem dX0_foundFault_60 : decode cX0_foundFault 60 = .ok (.iload_n 2, 1) := by decide +kernel
theorem dX0_foundFault_61 : decode cX0_foundFault 61 = .ok (.ireturn, 1) := by decide +kernel
theorem dX0_foundFault_62 : decode cX0_foundFault 62 = .ok (.iinc 2 1, 3) := by decide +kernel
theorem dX0_foundFault_65 : decode cX0_foundFault 65 = .ok (.goto (-53), 3) := by decide +kernel
theorem dX0_foundFault_68 : decode cX0_foundFault 68 = .ok (.iconst (-1), 1) := by decide +kernel
theorem dX0_foundFault_69 : decode cX0_foundFault 69 = .ok (.ireturn, 1) := by decide +kernel
theorem dX0_sendBackTo_0 : decode cX0_sendBackTo 0 = .ok (.aload_n 0, 1) := by decide +kernel
theorem dX0_sendBackTo_1 : decode cX0_sendBackTo 1 = .ok (.dup, 1) := by decide +kernel
theorem dX0_sendBackTo_2 : decode cX0_sendBackTo 2 = .ok (.getfield 61, 3) := by decide +kernel
theorem dX0_sendBackTo_5 : decode cX0_sendBackTo 5 = .ok (.iconst 1, 1) := by decide +kernel
theorem dX0_sendBackTo_6 : decode cX0_sendBackTo 6 = .ok (.iload_n 1, 1) := by decide +kernel
theorem dX0_sendBackTo_7 : decode cX0_sendBackTo 7 = .ok (.ishl, 1) := by decide +kernel
theorem dX0_sendBackTo_8 : decode cX0_sendBackTo 8 = .ok (.iconst 1, 1) := by decide +kernel
theorem dX0_sendBackTo_9 : decode cX0_sendBackTo 9 = .ok (.isub, 1) := by decide +kernel
theorem dX0_sendBackTo_10 : decode cX0_sendBackTo 10 = .ok (.iand, 1) := by decide +kernel
theorem dX0_sendBackTo_11 : decode cX0_sendBackTo 11 = .ok (.putfield 61, 3) := by decide +kernel
theorem dX0_sendBackTo_14 : decode cX0_sendBackTo 14 = .ok (.aload_n 0, 1) := by decide +kernel
theorem dX0_sendBackTo_15 : decode cX0_sendBackTo 15 = .ok (.iconst 1, 1) := by decide +kernel
theorem dX0_sendBackTo_16 : decode cX0_sendBackTo 16 = .ok (.putfield 46, 3) := by decide +kernel
theorem dX0_sendBackTo_19 : decode cX0_sendBackTo 19 = .ok (.aload_n 0, 1) := by decide +kernel
theorem dX0_sendBackTo_20 : decode cX0_sendBackTo 20 = .ok (.iload_n 1, 1) := by decide +kernel
theorem dX0_sendBackTo_21 : decode cX0_sendBackTo 21 = .ok (.putfield 28, 3) := by decide +kernel
theorem dX0_sendBackTo_24 : decode cX0_sendBackTo 24 = .ok (.return_, 1) := by decide +kernel
theorem dX0_tell_0 : decode cX0_tell 0 = .ok (.iload_n 1, 1) := by decide +kernel
theorem dX0_tell_1 : decode cX0_tell 1 = .ok (.tableswitch 118 0 8 #[51, 59, 64, 69, 74, 79, 84, 97, 110], 51) := by decide +kernel
theorem dX0_tell_52 : decode cX0_tell 52 = .ok (.aload_n 0, 1) := by decide +kernel
theorem dX0_tell_53 : decode cX0_tell 53 = .ok (.getfield 18, 3) := by decide +kernel
theorem dX0_tell_56 : decode cX0_tell 56 = .ok (.getfield 64, 3) := by decide +kernel
theorem dX0_tell_59 : decode cX0_tell 59 = .ok (.ireturn, 1) := by decide +kernel
theorem dX0_tell_60 : decode cX0_tell 60 = .ok (.aload_n 0, 1) := by decide +kernel
theorem dX0_tell_61 : decode cX0_tell 61 = .ok (.getfield 22, 3) := by decide +kernel
theorem dX0_tell_64 : decode cX0_tell 64 = .ok (.ireturn, 1) := by decide +kernel
theorem dX0_tell_65 : decode cX0_tell 65 = .ok (.aload_n 0, 1) := by decide +kernel
theorem dX0_tell_66 : decode cX0_tell 66 = .ok (.getfield 49, 3) := by decide +kernel
theorem dX0_tell_69 : decode cX0_tell 69 = .ok (.ireturn, 1) := by decide +kernel
theorem dX0_tell_70 : decode cX0_tell 70 = .ok (.aload_n 0, 1) := by decide +kernel
theorem dX0_tell_71 : decode cX0_tell 71 = .ok (.getfield 25, 3) := by decide +kernel
theorem dX0_tell_74 : decode cX0_tell 74 = .ok (.ireturn, 1) := by decide +kernel
theorem dX0_tell_75 : decode cX0_tell 75 = .ok (.aload_n 0, 1) := by decide +kernel
theorem dX0_tell_76 : decode cX0_tell 76 = .ok (.getfield 28, 3) := by decide +kernel
theorem dX0_tell_79 : decode cX0_tell 79 = .ok (.ireturn, 1) := by decide +kernel
theorem dX0_tell_80 : decode cX0_tell 80 = .ok (.aload_n 0, 1) := by decide +kernel
theorem dX0_tell_81 : decode cX0_tell 81 = .ok (.getfield 65, 3) := by decide +kernel
theorem dX0_tell_84 : decode cX0_tell 84 = .ok (.ireturn, 1) := by decide +kernel
theorem dX0_tell_85 : decode cX0_tell 85 = .ok (.aload_n 0, 1) := by decide +kernel
theorem dX0_tell_86 : decode cX0_tell 86 = .ok (.getfield 42, 3) := by decide +kernel
theorem dX0_tell_89 : decode cX0_tell 89 = .ok (.ifCond .eq 7, 3) := by decide +kernel
theorem dX0_tell_92 : decode cX0_tell 92 = .ok (.iconst 1, 1) := by decide +kernel
theorem dX0_tell_93 : decode cX0_tell 93 = .ok (.goto 4, 3) := by decide +kernel
theorem dX0_tell_96 : decode cX0_tell 96 = .ok (.iconst 0, 1) := by decide +kernel
theorem dX0_tell_97 : decode cX0_tell 97 = .ok (.ireturn, 1) := by decide +kernel
theorem dX0_tell_98 : decode cX0_tell 98 = .ok (.aload_n 0, 1) := by decide +kernel
theorem dX0_tell_99 : decode cX0_tell 99 = .ok (.getfield 46, 3) := by decide +kernel
theorem dX0_tell_102 : decode cX0_tell 102 = .ok (.ifCond .eq 7, 3) := by decide +kernel
theorem dX0_tell_105 : decode cX0_tell 105 = .ok (.iconst 1, 1) := by decide +kernel
theorem dX0_tell_106 : decode cX0_tell 106 = .ok (.goto 4, 3) := by decide +kernel
theorem dX0_tell_109 : decode cX0_tell 109 = .ok (.iconst 0, 1) := by decide +kernel
theorem dX0_tell_110 : decode cX0_tell 110 = .ok (.ireturn, 1) := by decide +kernel
theorem dX0_tell_111 : decode cX0_tell 111 = .ok (.aload_n 0, 1) := by decide +kernel
theorem dX0_tell_112 : decode cX0_tell 112 = .ok (.getfield 68, 3) := by decide +kernel
theorem dX0_tell_115 : decode cX0_tell 115 = .ok (.invokestatic 72, 3) := by decide +kernel
theorem dX0_tell_118 : decode cX0_tell 118 = .ok (.ireturn, 1) := by decide +kernel
theorem dX0_tell_119 : decode cX0_tell 119 = .ok (.aload_n 0, 1) := by decide +kernel
theorem dX0_tell_120 : decode cX0_tell 120 = .ok (.getfield 9, 3) := by decide +kernel
theorem dX0_tell_123 : decode cX0_tell 123 = .ok (.ireturn, 1) := by decide +kernel
theorem dX1_init_0 : decode cX1_init 0 = .ok (.aload_n 0, 1) := by decide +kernel
theorem dX1_init_1 : decode cX1_init 1 = .ok (.invokespecial 3, 3) := by decide +kernel
theorem dX1_init_4 : decode cX1_init 4 = .ok (.aload_n 0, 1) := by decide +kernel
theorem dX1_init_5 : decode cX1_init 5 = .ok (.new 9, 3) := by decide +kernel
theorem dX1_init_8 : decode cX1_init 8 = .ok (.dup, 1) := by decide +kernel
theorem dX1_init_9 : decode cX1_init 9 = .ok (.invokespecial 11, 3) := by decide +kernel
theorem dX1_init_12 : decode cX1_init 12 = .ok (.putfield 12, 3) := by decide +kernel
theorem dX1_init_15 : decode cX1_init 15 = .ok (.aload_n 0, 1) := by decide +kernel
theorem dX1_init_16 : decode cX1_init 16 = .ok (.bipush 6, 2) := by decide +kernel
theorem dX1_init_18 : decode cX1_init 18 = .ok (.anewarray 18, 3) := by decide +kernel
theorem dX1_init_21 : decode cX1_init 21 = .ok (.putfield 20, 3) := by decide +kernel
theorem dX1_init_24 : decode cX1_init 24 = .ok (.aload_n 0, 1) := by decide +kernel
theorem dX1_init_25 : decode cX1_init 25 = .ok (.bipush 6, 2) := by decide +kernel
theorem dX1_init_27 : decode cX1_init 27 = .ok (.anewarray 24, 3) := by decide +kernel
theorem dX1_init_30 : decode cX1_init 30 = .ok (.putfield 26, 3) := by decide +kernel
theorem dX1_init_33 : decode cX1_init 33 = .ok (.return_, 1) := by decide +kernel
theorem dX1_putMachine_0 : decode cX1_putMachine 0 = .ok (.aload_n 0, 1) := by decide +kernel
theorem dX1_putMachine_1 : decode cX1_putMachine 1 = .ok (.getfield 30, 3) := by decide +kernel
theorem dX1_putMachine_4 : decode cX1_putMachine 4 = .ok (.aload_n 0, 1) := by decide +kernel
theorem dX1_putMachine_5 : decode cX1_putMachine 5 = .ok (.getfield 20, 3) := by decide +kernel
theorem dX1_putMachine_8 : decode cX1_putMachine 8 = .ok (.arraylength, 1) := by decide +kernel
theorem dX1_putMachine_9 : decode cX1_putMachine 9 = .ok (.if_icmp .lt 13, 3) := by decide +kernel
theorem dX1_putMachine_12 : decode cX1_putMachine 12 = .ok (.new 34, 3) := by decide +kernel
theorem dX1_putMachine_15 : decode cX1_putMachine 15 = .ok (.dup, 1) := by decide +kernel
theorem dX1_putMachine_16 : decode cX1_putMachine 16 = .ok (.ldc 36, 2) := by decide +kernel
theorem dX1_putMachine_18 : decode cX1_putMachine 18 = .ok (.invokespecial 38, 3) := by decide +kernel
theorem dX1_putMachine_21 : decode cX1_putMachine 21 = .ok (.athrow, 1) := by decide +kernel
theorem dX1_putMachine_22 : decode cX1_putMachine 22 = .ok (.aload_n 0, 1) := by decide +kernel
theorem dX1_putMachine_23 : decode cX1_putMachine 23 = .ok (.getfield 20, 3) := by decide +kernel
theorem dX1_putMachine_26 : decode cX1_putMachine 26 = .ok (.aload_n 0, 1) := by decide +kernel
theorem dX1_putMachine_27 : decode cX1_putMachine 27 = .ok (.getfield 30, 3) := by decide +kernel
theorem dX1_putMachine_30 : decode cX1_putMachine 30 = .ok (.aload_n 1, 1) := by decide +kernel
theorem dX1_putMachine_31 : decode cX1_putMachine 31 = .ok (.aastore, 1) := by decide +kernel
theorem dX1_putMachine_32 : decode cX1_putMachine 32 = .ok (.aload_n 0, 1) := by decide +kernel
theorem dX1_putMachine_33 : decode cX1_putMachine 33 = .ok (.dup, 1) := by decide +kernel
theorem dX1_putMachine_34 : decode cX1_putMachine 34 = .ok (.getfield 30, 3) := by decide +kernel
theorem dX1_putMachine_37 : decode cX1_putMachine 37 = .ok (.iconst 1, 1) := by decide +kernel
theorem dX1_putMachine_38 : decode cX1_putMachine 38 = .ok (.iadd, 1) := by decide +kernel
theorem dX1_putMachine_39 : decode cX1_putMachine 39 = .ok (.putfield 30, 3) := by decide +kernel
theorem dX1_putMachine_42 : decode cX1_putMachine 42 = .ok (.return_, 1) := by decide +kernel
theorem dX1_putPerson_0 : decode cX1_putPerson 0 = .ok (.aload_n 0, 1) := by decide +kernel
theorem dX1_putPerson_1 : decode cX1_putPerson 1 = .ok (.getfield 41, 3) := by decide +kernel
theorem dX1_putPerson_4 : decode cX1_putPerson 4 = .ok (.aload_n 0, 1) := by decide +kernel
theorem dX1_putPerson_5 : decode cX1_putPerson 5 = .ok (.getfield 26, 3) := by decide +kernel
theorem dX1_putPerson_8 : decode cX1_putPerson 8 = .ok (.arraylength, 1) := by decide +kernel
theorem dX1_putPerson_9 : decode cX1_putPerson 9 = .ok (.if_icmp .lt 13, 3) := by decide +kernel
theorem dX1_putPerson_12 : decode cX1_putPerson 12 = .ok (.new 34, 3) := by decide +kernel
theorem dX1_putPerson_15 : decode cX1_putPerson 15 = .ok (.dup, 1) := by decide +kernel
theorem dX1_putPerson_16 : decode cX1_putPerson 16 = .ok (.ldc 44, 2) := by decide +kernel
theorem dX1_putPerson_18 : decode cX1_putPerson 18 = .ok (.invokespecial 38, 3) := by decide +kernel
theorem dX1_putPerson_21 : decode cX1_putPerson 21 = .ok (.athrow, 1) := by decide +kernel
theorem dX1_putPerson_22 : decode cX1_putPerson 22 = .ok (.aload_n 0, 1) := by decide +kernel
theorem dX1_putPerson_23 : decode cX1_putPerson 23 = .ok (.getfield 26, 3) := by decide +kernel
theorem dX1_putPerson_26 : decode cX1_putPerson 26 = .ok (.aload_n 0, 1) := by decide +kernel
theorem dX1_putPerson_27 : decode cX1_putPerson 27 = .ok (.getfield 41, 3) := by decide +kernel
theorem dX1_putPerson_30 : decode cX1_putPerson 30 = .ok (.aload_n 1, 1) := by decide +kernel
theorem dX1_putPerson_31 : decode cX1_putPerson 31 = .ok (.aastore, 1) := by decide +kernel
theorem dX1_putPerson_32 : decode cX1_putPerson 32 = .ok (.aload_n 0, 1) := by decide +kernel
theorem dX1_putPerson_33 : decode cX1_putPerson 33 = .ok (.dup, 1) := by decide +kernel
theorem dX1_putPerson_34 : decode cX1_putPerson 34 = .ok (.getfield 41, 3) := by decide +kernel
theorem dX1_putPerson_37 : decode cX1_putPerson 37 = .ok (.iconst 1, 1) := by decide +kernel
theorem dX1_putPerson_38 : decode cX1_putPerson 38 = .ok (.iadd, 1) := by decide +kernel
theorem dX1_putPerson_39 : decode cX1_putPerson 39 = .ok (.putfield 41, 3) := by decide +kernel
theorem dX1_putPerson_42 : decode cX1_putPerson 42 = .ok (.return_, 1) := by decide +kernel
theorem dX1_doHour_0 : decode cX1_doHour 0 = .ok (.aload_n 0, 1) := by decide +kernel
theorem dX1_doHour_1 : decode cX1_doHour 1 = .ok (.getfield 12, 3) := by decide +kernel
theorem dX1_doHour_4 : decode cX1_doHour 4 = .ok (.iload_n 1, 1) := by decide +kernel
theorem dX1_doHour_5 : decode cX1_doHour 5 = .ok (.invokevirtual 46, 3) := by decide +kernel
theorem dX1_doHour_8 : decode cX1_doHour 8 = .ok (.iconst 0, 1) := by decide +kernel
theorem dX1_doHour_9 : decode cX1_doHour 9 = .ok (.istore_n 2, 1) := by decide +kernel
theorem dX1_doHour_10 : decode cX1_doHour 10 = .ok (.iload_n 2, 1) := by decide +kernel
theorem dX1_doHour_11 : decode cX1_doHour 11 = .ok (.aload_n 0, 1) := by decide +kernel
theorem dX1_doHour_12 : decode cX1_doHour 12 = .ok (.getfield 30, 3) := by decide +kernel
theorem dX1_doHour_15 : decode cX1_doHour 15 = .ok (.if_icmp .ge 20, 3) := by decide +kernel
theorem dX1_doHour_18 : decode cX1_doHour 18 = .ok (.aload_n 0, 1) := by decide +kernel
theorem dX1_doHour_19 : decode cX1_doHour 19 = .ok (.aload_n 0, 1) := by decide +kernel
theorem dX1_doHour_20 : decode cX1_doHour 20 = .ok (.getfield 20, 3) := by decide +kernel
theorem dX1_doHour_23 : decode cX1_doHour 23 = .ok (.iload_n 2, 1) := by decide +kernel
theorem dX1_doHour_24 : decode cX1_doHour 24 = .ok (.aaload, 1) := by decide +kernel
theorem dX1_doHour_25 : decode cX1_doHour 25 = .ok (.iload_n 1, 1) := by decide +kernel
theorem dX1_doHour_26 : decode cX1_doHour 26 = .ok (.invokevirtual 50, 3) := by decide +kernel
theorem dX1_doHour_29 : decode cX1_doHour 29 = .ok (.iinc 2 1, 3) := by decide +kernel
theorem dX1_doHour_32 : decode cX1_doHour 32 = .ok (.goto (-22), 3) := by decide +kernel
theorem dX1_doHour_35 : decode cX1_doHour 35 = .ok (.iconst 0, 1) := by decide +kernel
theorem dX1_doHour_36 : decode cX1_doHour 36 = .ok (.istore_n 2, 1) := by decide +kernel
theorem dX1_doHour_37 : decode cX1_doHour 37 = .ok (.iload_n 2, 1) := by decide +kernel
theorem dX1_doHour_38 : decode cX1_doHour 38 = .ok (.aload_n 0, 1) := by decide +kernel
theorem dX1_doHour_39 : decode cX1_doHour 39 = .ok (.getfield 30, 3) := by decide +kernel
theorem dX1_doHour_42 : decode cX1_doHour 42 = .ok (.if_icmp .ge 19, 3) := by decide +kernel
theorem dX1_doHour_45 : decode cX1_doHour 45 = .ok (.aload_n 0, 1) := by decide +kernel
theorem dX1_doHour_46 : decode cX1_doHour 46 = .ok (.aload_n 0, 1) := by decide +kernel
theorem dX1_doHour_47 : decode cX1_doHour 47 = .ok (.getfield 20, 3) := by decide +kernel
theorem dX1_doHour_50 : decode cX1_doHour 50 = .ok (.iload_n 2, 1) := by decide +kernel
theorem dX1_doHour_51 : decode cX1_doHour 51 = .ok (.aaload, 1) := by decide +kernel
theorem dX1_doHour_52 : decode cX1_doHour 52 = .ok (.invokevirtual 54, 3) := by decide +kernel
theorem dX1_doHour_55 : decode cX1_doHour 55 = .ok (.iinc 2 1, 3) := by decide +kernel
theorem dX1_doHour_58 : decode cX1_doHour 58 = .ok (.goto (-21), 3) := by decide +kernel
theorem dX1_doHour_61 : decode cX1_doHour 61 = .ok (.iconst 0, 1) := by decide +kernel
theorem dX1_doHour_62 : decode cX1_doHour 62 = .ok (.istore_n 2, 1) := by decide +kernel
theorem dX1_doHour_63 : decode cX1_doHour 63 = .ok (.iload_n 2, 1) := by decide +kernel
theorem dX1_doHour_64 : decode cX1_doHour 64 = .ok (.aload_n 0, 1) := by decide +kernel
theorem dX1_doHour_65 : decode cX1_doHour 65 = .ok (.getfield 30, 3) := by decide +kernel
theorem dX1_doHour_68 : decode cX1_doHour 68 = .ok (.if_icmp .ge 20, 3) := by decide +kernel
theorem dX1_doHour_71 : decode cX1_doHour 71 = .ok (.aload_n 0, 1) := by decide +kernel
theorem dX1_doHour_72 : decode cX1_doHour 72 = .ok (.aload_n 0, 1) := by decide +kernel
theorem dX1_doHour_73 : decode cX1_doHour 73 = .ok (.getfield 20, 3) := by decide +kernel
theorem dX1_doHour_76 : decode cX1_doHour 76 = .ok (.iload_n 2, 1) := by decide +kernel
theorem dX1_doHour_77 : decode cX1_doHour 77 = .ok (.aaload, 1) := by decide +kernel
theorem dX1_doHour_78 : decode cX1_doHour 78 = .ok (.iload_n 1, 1) := by decide +kernel
theorem dX1_doHour_79 : decode cX1_doHour 79 = .ok (.invokevirtual 58, 3) := by decide +kernel
theorem dX1_doHour_82 : decode cX1_doHour 82 = .ok (.iinc 2 1, 3) := by decide +kernel
theorem dX1_doHour_85 : decode cX1_doHour 85 = .ok (.goto (-22), 3) := by decide +kernel
theorem dX1_doHour_88 : decode cX1_doHour 88 = .ok (.return_, 1) := by decide +kernel
theorem dX1_workAt_0 : decode cX1_workAt 0 = .ok (.aload_n 1, 1) := by decide +kernel
theorem dX1_workAt_1 : decode cX1_workAt 1 = .ok (.getfield 61, 3) := by decide +kernel
theorem dX1_workAt_4 : decode cX1_workAt 4 = .ok (.astore_n 3, 1) := by decide +kernel
theorem dX1_workAt_5 : decode cX1_workAt 5 = .ok (.aload_n 1, 1) := by decide +kernel
theorem dX1_workAt_6 : decode cX1_workAt 6 = .ok (.getfield 65, 3) := by decide +kernel
theorem dX1_workAt_9 : decode cX1_workAt 9 = .ok (.astore 4, 2) := by decide +kernel
theorem dX1_workAt_11 : decode cX1_workAt 11 = .ok (.aload_n 3, 1) := by decide +kernel
theorem dX1_workAt_12 : decode cX1_workAt 12 = .ok (.ifnull 8, 3) := by decide +kernel
theorem dX1_workAt_15 : decode cX1_workAt 15 = .ok (.aload 4, 2) := by decide +kernel
theorem dX1_workAt_17 : decode cX1_workAt 17 = .ok (.ifnonnull 4, 3) := by decide +kernel
theorem dX1_workAt_20 : decode cX1_workAt 20 = .ok (.return_, 1) := by decide +kernel
theorem dX1_workAt_21 : decode cX1_workAt 21 = .ok (.aload_n 1, 1) := by decide +kernel
theorem dX1_workAt_22 : decode cX1_workAt 22 = .ok (.getfield 69, 3) := by decide +kernel
theorem dX1_workAt_25 : decode cX1_workAt 25 = .ok (.ifCond .le 20, 3) := by decide +kernel
theorem dX1_workAt_28 : decode cX1_workAt 28 = .ok (.aload 4, 2) := by decide +kernel
theorem dX1_workAt_30 : decode cX1_workAt 30 = .ok (.iload_n 2, 1) := by decide +kernel
theorem dX1_workAt_31 : decode cX1_workAt 31 = .ok (.invokevirtual 72, 3) := by decide +kernel
theorem dX1_workAt_34 : decode cX1_workAt 34 = .ok (.ifCond .eq 11, 3) := by decide +kernel
theorem dX1_workAt_37 : decode cX1_workAt 37 = .ok (.aload_n 0, 1) := by decide +kernel
theorem dX1_workAt_38 : decode cX1_workAt 38 = .ok (.aload_n 1, 1) := by decide +kernel
theorem dX1_workAt_39 : decode cX1_workAt 39 = .ok (.aload_n 3, 1) := by decide +kernel
theorem dX1_workAt_40 : decode cX1_workAt 40 = .ok (.aload 4, 2) := by decide +kernel
theorem dX1_workAt_42 : decode cX1_workAt 42 = .ok (.invokevirtual 76, 3) := by decide +kernel
theorem dX1_workAt_45 : decode cX1_workAt 45 = .ok (.aload_n 1, 1) := by decide +kernel
theorem dX1_workAt_46 : decode cX1_workAt 46 = .ok (.getfield 69, 3) := by decide +kernel
theorem dX1_workAt_49 : decode cX1_workAt 49 = .ok (.ifCond .le 4, 3) := by decide +kernel
theorem dX1_workAt_52 : decode cX1_workAt 52 = .ok (.return_, 1) := by decide +kernel
theorem dX1_workAt_53 : decode cX1_workAt 53 = .ok (.aload_n 1, 1) := by decide +kernel
theorem dX1_workAt_54 : decode cX1_workAt 54 = .ok (.getfield 80, 3) := by decide +kernel
theorem dX1_workAt_57 : decode cX1_workAt 57 = .ok (.ifCond .ne 31, 3) := by decide +kernel
theorem dX1_workAt_60 : decode cX1_workAt 60 = .ok (.aload_n 1, 1) := by decide +kernel
theorem dX1_workAt_61 : decode cX1_workAt 61 = .ok (.iconst 1, 1) := by decide +kernel
theorem dX1_workAt_62 : decode cX1_workAt 62 = .ok (.putfield 80, 3) := by decide +kernel
theorem dX1_workAt_65 : decode cX1_workAt 65 = .ok (.aload_n 1, 1) := by decide +kernel
theorem dX1_workAt_66 : decode cX1_workAt 66 = .ok (.iload_n 2, 1) := by decide +kernel
theorem dX1_workAt_67 : decode cX1_workAt 67 = .ok (.invokevirtual 84, 3) := by decide +kernel
theorem dX1_workAt_70 : decode cX1_workAt 70 = .ok (.ifCond .eq 18, 3) := by decide +kernel
theorem dX1_workAt_73 : decode cX1_workAt 73 = .ok (.aload_n 3, 1) := by decide +kernel
theorem dX1_workAt_74 : decode cX1_workAt 74 = .ok (.dup, 1) := by decide +kernel
theorem dX1_workAt_75 : decode cX1_workAt 75 = .ok (.getfield 87, 3) := by decide +kernel
theorem dX1_workAt_78 : decode cX1_workAt 78 = .ok (.iconst 1, 1) := by decide +kernel
theorem dX1_workAt_79 : decode cX1_workAt 79 = .ok (.aload_n 3, 1) := by decide +kernel
theorem dX1_workAt_80 : decode cX1_workAt 80 = .ok (.getfield 92, 3) := by decide +kernel
theorem dX1_workAt_83 : decode cX1_workAt 83 = .ok (.ishl, 1) := by decide +kernel
theorem dX1_workAt_84 : decode cX1_workAt 84 = .ok (.ior, 1) := by decide +kernel
theorem dX1_workAt_85 : decode cX1_workAt 85 = .ok (.putfield 87, 3) := by decide +kernel
theorem dX1_workAt_88 : decode cX1_workAt 88 = .ok (.aload_n 0, 1) := by decide +kernel
theorem dX1_workAt_89 : decode cX1_workAt 89 = .ok (.aload_n 3, 1) := by decide +kernel
theorem dX1_workAt_90 : decode cX1_workAt 90 = .ok (.invokevirtual 95, 3) := by decide +kernel
theorem dX1_workAt_93 : decode cX1_workAt 93 = .ok (.ifCond .eq 7, 3) := by decide +kernel
theorem dX1_workAt_96 : decode cX1_workAt 96 = .ok (.aload_n 1, 1) := by decide +kernel
theorem dX1_workAt_97 : decode cX1_workAt 97 = .ok (.invokevirtual 99, 3) := by decide +kernel
theorem dX1_workAt_100 : decode cX1_workAt 100 = .ok (.return_, 1) := by decide +kernel
theorem dX1_workHour_0 : decode cX1_workHour 0 = .ok (.aload_n 1, 1) := by decide +kernel
theorem dX1_workHour_1 : decode cX1_workHour 1 = .ok (.getfield 102, 3) := by decide +kernel
theorem dX1_workHour_4 : decode cX1_workHour 4 = .ok (.aload_n 3, 1) := by decide +kernel
theorem dX1_workHour_5 : decode cX1_workHour 5 = .ok (.getfield 105, 3) := by decide +kernel
theorem dX1_workHour_8 : decode cX1_workHour 8 = .ok (.iadd, 1) := by decide +kernel
theorem dX1_workHour_9 : decode cX1_workHour 9 = .ok (.istore 4, 2) := by decide +kernel
theorem dX1_workHour_11 : decode cX1_workHour 11 = .ok (.aload_n 1, 1) := by decide +kernel
theorem dX1_workHour_12 : decode cX1_workHour 12 = .ok (.dup, 1) := by decide +kernel
theorem dX1_workHour_13 : decode cX1_workHour 13 = .ok (.getfield 69, 3) := by decide +kernel
theorem dX1_workHour_16 : decode cX1_workHour 16 = .ok (.iconst 1, 1) := by decide +kernel
theorem dX1_workHour_17 : decode cX1_workHour 17 = .ok (.isub, 1) := by decide +kernel
theorem dX1_workHour_18 : decode cX1_workHour 18 = .ok (.putfield 69, 3) := by decide +kernel
theorem dX1_workHour_21 : decode cX1_workHour 21 = .ok (.aload_n 1, 1) := by decide +kernel
theorem dX1_workHour_22 : decode cX1_workHour 22 = .ok (.dup, 1) := by decide +kernel
theorem dX1_workHour_23 : decode cX1_workHour 23 = .ok (.getfield 108, 3) := by decide +kernel
theorem dX1_workHour_26 : decode cX1_workHour 26 = .ok (.iconst 1, 1) := by decide +kernel
theorem dX1_workHour_27 : decode cX1_workHour 27 = .ok (.iadd, 1) := by decide +kernel
theorem dX1_workHour_28 : decode cX1_workHour 28 = .ok (.putfield 108, 3) := by decide +kernel
theorem dX1_workHour_31 : decode cX1_workHour 31 = .ok (.aload_n 2, 1) := by decide +kernel
theorem dX1_workHour_32 : decode cX1_workHour 32 = .ok (.dup, 1) := by decide +kernel
theorem dX1_workHour_33 : decode cX1_workHour 33 = .ok (.getfield 111, 3) := by decide +kernel
theorem dX1_workHour_36 : decode cX1_workHour 36 = .ok (.iload 4, 2) := by decide +kernel
theorem dX1_workHour_38 : decode cX1_workHour 38 = .ok (.iadd, 1) := by decide +kernel
theorem dX1_workHour_39 : decode cX1_workHour 39 = .ok (.putfield 111, 3) := by decide +kernel
theorem dX1_workHour_42 : decode cX1_workHour 42 = .ok (.aload_n 0, 1) := by decide +kernel
theorem dX1_workHour_43 : decode cX1_workHour 43 = .ok (.dup, 1) := by decide +kernel
theorem dX1_workHour_44 : decode cX1_workHour 44 = .ok (.getfield 112, 3) := by decide +kernel
theorem dX1_workHour_47 : decode cX1_workHour 47 = .ok (.iload 4, 2) := by decide +kernel
theorem dX1_workHour_49 : decode cX1_workHour 49 = .ok (.iadd, 1) := by decide +kernel
theorem dX1_workHour_50 : decode cX1_workHour 50 = .ok (.putfield 112, 3) := by decide +kernel
theorem dX1_workHour_53 : decode cX1_workHour 53 = .ok (.aload_n 2, 1) := by decide +kernel
theorem dX1_workHour_54 : decode cX1_workHour 54 = .ok (.invokevirtual 115, 3) := by decide +kernel
theorem dX1_workHour_57 : decode cX1_workHour 57 = .ok (.astore 5, 2) := by decide +kernel
theorem dX1_workHour_59 : decode cX1_workHour 59 = .ok (.aload 5, 2) := by decide +kernel
theorem dX1_workHour_61 : decode cX1_workHour 61 = .ok (.ifnull 12, 3) := by decide +kernel
theorem dX1_workHour_64 : decode cX1_workHour 64 = .ok (.aload_n 3, 1) := by decide +kernel
theorem dX1_workHour_65 : decode cX1_workHour 65 = .ok (.aload 5, 2) := by decide +kernel
theorem dX1_workHour_67 : decode cX1_workHour 67 = .ok (.getfield 119, 3) := by decide +kernel
theorem dX1_workHour_70 : decode cX1_workHour 70 = .ok (.invokevirtual 124, 3) := by decide +kernel
theorem dX1_workHour_73 : decode cX1_workHour 73 = .ok (.return_, 1) := by decide +kernel
theorem dX1_hasLeft_0 : decode cX1_hasLeft 0 = .ok (.aload_n 1, 1) := by decide +kernel
theorem dX1_hasLeft_1 : decode cX1_hasLeft 1 = .ok (.invokevirtual 127, 3) := by decide +kernel
theorem dX1_hasLeft_4 : decode cX1_hasLeft 4 = .ok (.istore_n 2, 1) := by decide +kernel
theorem dX1_hasLeft_5 : decode cX1_hasLeft 5 = .ok (.iload_n 2, 1) := by decide +kernel
theorem dX1_hasLeft_6 : decode cX1_hasLeft 6 = .ok (.iconst (-1), 1) := by decide +kernel
theorem dX1_hasLeft_7 : decode cX1_hasLeft 7 = .ok (.if_icmp .eq 17, 3) := by decide +kernel
theorem dX1_hasLeft_10 : decode cX1_hasLeft 10 = .ok (.aload_n 1, 1) := by decide +kernel
theorem dX1_hasLeft_11 : decode cX1_hasLeft 11 = .ok (.getfield 131, 3) := by decide +kernel
theorem dX1_hasLeft_14 : decode cX1_hasLeft 14 = .ok (.ifCond .eq 10, 3) := by decide +kernel
theorem dX1_hasLeft_17 : decode cX1_hasLeft 17 = .ok (.aload_n 1, 1) := by decide +kernel
theorem dX1_hasLeft_18 : decode cX1_hasLeft 18 = .ok (.iconst 5, 1) := by decide +kernel
theorem dX1_hasLeft_19 : decode cX1_hasLeft 19 = .ok (.putfield 134, 3) := by decide +kernel
theorem dX1_hasLeft_22 : decode cX1_hasLeft 22 = .ok (.iconst 1, 1) := by decide +kernel
theorem dX1_hasLeft_23 : decode cX1_hasLeft 23 = .ok (.ireturn, 1) := by decide +kernel
theorem dX1_hasLeft_24 : decode cX1_hasLeft 24 = .ok (.aload_n 1, 1) := by decide +kernel
theorem dX1_hasLeft_25 : decode cX1_hasLeft 25 = .ok (.getfield 137, 3) := by decide +kernel
theorem dX1_hasLeft_28 : decode cX1_hasLeft 28 = .ok (.iload_n 2, 1) := by decide +kernel
theorem dX1_hasLeft_29 : decode cX1_hasLeft 29 = .ok (.iconst (-1), 1) := by decide +kernel
theorem dX1_hasLeft_30 : decode cX1_hasLeft 30 = .ok (.if_icmp .eq 7, 3) := by decide +kernel
theorem dX1_hasLeft_33 : decode cX1_hasLeft 33 = .ok (.iload_n 2, 1) := by decide +kernel
theorem dX1_hasLeft_34 : decode cX1_hasLeft 34 = .ok (.goto 9, 3) := by decide +kernel
theorem dX1_hasLeft_37 : decode cX1_hasLeft 37 = .ok (.aload_n 1, 1) := by decide +kernel
theorem dX1_hasLeft_38 : decode cX1_hasLeft 38 = .ok (.getfield 92, 3) := by decide +kernel
theorem dX1_hasLeft_41 : decode cX1_hasLeft 41 = .ok (.iconst 1, 1) := by decide +kernel
theorem dX1_hasLeft_42 : decode cX1_hasLeft 42 = .ok (.iadd, 1) := by decide +kernel
theorem dX1_hasLeft_43 : decode cX1_hasLeft 43 = .ok (.invokevirtual 141, 3) := by decide +kernel
theorem dX1_hasLeft_46 : decode cX1_hasLeft 46 = .ok (.astore_n 3, 1) := by decide +kernel
theorem dX1_hasLeft_47 : decode cX1_hasLeft 47 = .ok (.aload_n 3, 1) := by decide +kernel
theorem dX1_hasLeft_48 : decode cX1_hasLeft 48 = .ok (.ifnonnull 30, 3) := by decide +kernel
theorem dX1_hasLeft_51 : decode cX1_hasLeft 51 = .ok (.aload_n 1, 1) := by decide +kernel
theorem dX1_hasLeft_52 : decode cX1_hasLeft 52 = .ok (.getfield 137, 3) := by decide +kernel
theorem dX1_hasLeft_55 : decode cX1_hasLeft 55 = .ok (.aload_n 1, 1) := by decide +kernel
theorem dX1_hasLeft_56 : decode cX1_hasLeft 56 = .ok (.getfield 147, 3) := by decide +kernel
theorem dX1_hasLeft_59 : decode cX1_hasLeft 59 = .ok (.invokevirtual 150, 3) := by decide +kernel
theorem dX1_hasLeft_62 : decode cX1_hasLeft 62 = .ok (.ifCond .ne 5, 3) := by decide +kernel
theorem dX1_hasLeft_65 : decode cX1_hasLeft 65 = .ok (.iconst 0, 1) := by decide +kernel
theorem dX1_hasLeft_66 : decode cX1_hasLeft 66 = .ok (.ireturn, 1) := by decide +kernel
theorem dX1_hasLeft_67 : decode cX1_hasLeft 67 = .ok (.aload_n 0, 1) := by decide +kernel
theorem dX1_hasLeft_68 : decode cX1_hasLeft 68 = .ok (.getfield 12, 3) := by decide +kernel
theorem dX1_hasLeft_71 : decode cX1_hasLeft 71 = .ok (.aload_n 1, 1) := by decide +kernel
theorem dX1_hasLeft_72 : decode cX1_hasLeft 72 = .ok (.invokevirtual 153, 3) := by decide +kernel
theorem dX1_hasLeft_75 : decode cX1_hasLeft 75 = .ok (.goto 21, 3) := by decide +kernel
theorem dX1_hasLeft_78 : decode cX1_hasLeft 78 = .ok (.aload_n 0, 1) := by decide +kernel
theorem dX1_hasLeft_79 : decode cX1_hasLeft 79 = .ok (.getfield 12, 3) := by decide +kernel
theorem dX1_hasLeft_82 : decode cX1_hasLeft 82 = .ok (.aload_n 3, 1) := by decide +kernel
theorem dX1_hasLeft_83 : decode cX1_hasLeft 83 = .ok (.invokevirtual 157, 3) := by decide +kernel
theorem dX1_hasLeft_86 : decode cX1_hasLeft 86 = .ok (.ifCond .ne 5, 3) := by decide +kernel
theorem dX1_hasLeft_89 : decode cX1_hasLeft 89 = .ok (.iconst 0, 1) := by decide +kernel
theorem dX1_hasLeft_90 : decode cX1_hasLeft 90 = .ok (.ireturn, 1) := by decide +kernel
theorem dX1_hasLeft_91 : decode cX1_hasLeft 91 = .ok (.aload_n 1, 1) := by decide +kernel
theorem dX1_hasLeft_92 : decode cX1_hasLeft 92 = .ok (.iconst 1, 1) := by decide +kernel
theorem dX1_hasLeft_93 : decode cX1_hasLeft 93 = .ok (.putfield 134, 3) := by decide +kernel
theorem dX1_hasLeft_96 : decode cX1_hasLeft 96 = .ok (.iload_n 2, 1) := by decide +kernel
theorem dX1_hasLeft_97 : decode cX1_hasLeft 97 = .ok (.iconst (-1), 1) := by decide +kernel
theorem dX1_hasLeft_98 : decode cX1_hasLeft 98 = .ok (.if_icmp .eq 11, 3) := by decide +kernel
theorem dX1_hasLeft_101 : decode cX1_hasLeft 101 = .ok (.aload_n 1, 1) := by decide +kernel
theorem dX1_hasLeft_102 : decode cX1_hasLeft 102 = .ok (.iload_n 2, 1) := by decide +kernel
theorem dX1_hasLeft_103 : decode cX1_hasLeft 103 = .ok (.invokevirtual 161, 3) := by decide +kernel
theorem dX1_hasLeft_106 : decode cX1_hasLeft 106 = .ok (.goto 13, 3) := by decide +kernel
theorem dX1_hasLeft_109 : decode cX1_hasLeft 109 = .ok (.aload_n 1, 1) := by decide +kernel
theorem dX1_hasLeft_110 : decode cX1_hasLeft 110 = .ok (.dup, 1) := by decide +kernel
theorem dX1_hasLeft_111 : decode cX1_hasLeft 111 = .ok (.getfield 92, 3) := by decide +kernel
theorem dX1_hasLeft_114 : decode cX1_hasLeft 114 = .ok (.iconst 1, 1) := by decide +kernel
theorem dX1_hasLeft_115 : decode cX1_hasLeft 115 = .ok (.iadd, 1) := by decide +kernel
theorem dX1_hasLeft_116 : decode cX1_hasLeft 116 = .ok (.putfield 92, 3) := by decide +kernel
theorem dX1_hasLeft_119 : decode cX1_hasLeft 119 = .ok (.iconst 1, 1) := by decide +kernel
theorem dX1_hasLeft_120 : decode cX1_hasLeft 120 = .ok (.ireturn, 1) := by decide +kernel
theorem dX1_repairAt_0 : decode cX1_repairAt 0 = .ok (.aload_n 1, 1) := by decide +kernel
theorem dX1_repairAt_1 : decode cX1_repairAt 1 = .ok (.getfield 164, 3) := by decide +kernel
theorem dX1_repairAt_4 : decode cX1_repairAt 4 = .ok (.iconst 2, 1) := by decide +kernel
theorem dX1_repairAt_5 : decode cX1_repairAt 5 = .ok (.if_icmp .ne 10, 3) := by decide +kernel
theorem dX1_repairAt_8 : decode cX1_repairAt 8 = .ok (.aload_n 1, 1) := by decide +kernel
theorem dX1_repairAt_9 : decode cX1_repairAt 9 = .ok (.invokevirtual 167, 3) := by decide +kernel
theorem dX1_repairAt_12 : decode cX1_repairAt 12 = .ok (.goto 61, 3) := by decide +kernel
theorem dX1_repairAt_15 : decode cX1_repairAt 15 = .ok (.aload_n 1, 1) := by decide +kernel
theorem dX1_repairAt_16 : decode cX1_repairAt 16 = .ok (.getfield 164, 3) := by decide +kernel
theorem dX1_repairAt_19 : decode cX1_repairAt 19 = .ok (.iconst 1, 1) := by decide +kernel
theorem dX1_repairAt_20 : decode cX1_repairAt 20 = .ok (.if_icmp .ne 53, 3) := by decide +kernel
theorem dX1_repairAt_23 : decode cX1_repairAt 23 = .ok (.aload_n 1, 1) := by decide +kernel
theorem dX1_repairAt_24 : decode cX1_repairAt 24 = .ok (.getfield 170, 3) := by decide +kernel
theorem dX1_repairAt_27 : decode cX1_repairAt 27 = .ok (.ifnonnull 10, 3) := by decide +kernel
theorem dX1_repairAt_30 : decode cX1_repairAt 30 = .ok (.aload_n 1, 1) := by decide +kernel
theorem dX1_repairAt_31 : decode cX1_repairAt 31 = .ok (.invokevirtual 173, 3) := by decide +kernel
theorem dX1_repairAt_34 : decode cX1_repairAt 34 = .ok (.goto 39, 3) := by decide +kernel
theorem dX1_repairAt_37 : decode cX1_repairAt 37 = .ok (.aload_n 1, 1) := by decide +kernel
theorem dX1_repairAt_38 : decode cX1_repairAt 38 = .ok (.getfield 170, 3) := by decide +kernel
theorem dX1_repairAt_41 : decode cX1_repairAt 41 = .ok (.invokevirtual 176, 3) := by decide +kernel
theorem dX1_repairAt_44 : decode cX1_repairAt 44 = .ok (.iconst 1, 1) := by decide +kernel
theorem dX1_repairAt_45 : decode cX1_repairAt 45 = .ok (.if_icmp .lt 28, 3) := by decide +kernel
theorem dX1_repairAt_48 : decode cX1_repairAt 48 = .ok (.aload_n 0, 1) := by decide +kernel
theorem dX1_repairAt_49 : decode cX1_repairAt 49 = .ok (.dup, 1) := by decide +kernel
theorem dX1_repairAt_50 : decode cX1_repairAt 50 = .ok (.getfield 179, 3) := by decide +kernel
theorem dX1_repairAt_53 : decode cX1_repairAt 53 = .ok (.aload_n 0, 1) := by decide +kernel
theorem dX1_repairAt_54 : decode cX1_repairAt 54 = .ok (.getfield 12, 3) := by decide +kernel
theorem dX1_repairAt_57 : decode cX1_repairAt 57 = .ok (.aload_n 1, 1) := by decide +kernel
theorem dX1_repairAt_58 : decode cX1_repairAt 58 = .ok (.getfield 170, 3) := by decide +kernel
theorem dX1_repairAt_61 : decode cX1_repairAt 61 = .ok (.iconst 1, 1) := by decide +kernel
theorem dX1_repairAt_62 : decode cX1_repairAt 62 = .ok (.invokevirtual 182, 3) := by decide +kernel
theorem dX1_repairAt_65 : decode cX1_repairAt 65 = .ok (.iadd, 1) := by decide +kernel
theorem dX1_repairAt_66 : decode cX1_repairAt 66 = .ok (.putfield 179, 3) := by decide +kernel
theorem dX1_repairAt_69 : decode cX1_repairAt 69 = .ok (.aload_n 1, 1) := by decide +kernel
theorem dX1_repairAt_70 : decode cX1_repairAt 70 = .ok (.invokevirtual 173, 3) := by decide +kernel
theorem dX1_repairAt_73 : decode cX1_repairAt 73 = .ok (.return_, 1) := by decide +kernel
theorem dX1_takeBatchAt_0 : decode cX1_takeBatchAt 0 = .ok (.aload_n 1, 1) := by decide +kernel
theorem dX1_takeBatchAt_1 : decode cX1_takeBatchAt 1 = .ok (.invokevirtual 186, 3) := by decide +kernel
theorem dX1_takeBatchAt_4 : decode cX1_takeBatchAt 4 = .ok (.ifCond .ne 4, 3) := by decide +kernel
theorem dX1_takeBatchAt_7 : decode cX1_takeBatchAt 7 = .ok (.return_, 1) := by decide +kernel
theorem dX1_takeBatchAt_8 : decode cX1_takeBatchAt 8 = .ok (.aconst_null, 1) := by decide +kernel
theorem dX1_takeBatchAt_9 : decode cX1_takeBatchAt 9 = .ok (.astore_n 3, 1) := by decide +kernel
theorem dX1_takeBatchAt_10 : decode cX1_takeBatchAt 10 = .ok (.iconst 0, 1) := by decide +kernel
theorem dX1_takeBatchAt_11 : decode cX1_takeBatchAt 11 = .ok (.istore 4, 2) := by decide +kernel
theorem dX1_takeBatchAt_13 : decode cX1_takeBatchAt 13 = .ok (.iload 4, 2) := by decide +kernel
theorem dX1_takeBatchAt_15 : decode cX1_takeBatchAt 15 = .ok (.aload_n 0, 1) := by decide +kernel
theorem dX1_takeBatchAt_16 : decode cX1_takeBatchAt 16 = .ok (.getfield 12, 3) := by decide +kernel
theorem dX1_takeBatchAt_19 : decode cX1_takeBatchAt 19 = .ok (.getfield 190, 3) := by decide +kernel
theorem dX1_takeBatchAt_22 : decode cX1_takeBatchAt 22 = .ok (.if_icmp .ge 63, 3) := by decide +kernel
theorem dX1_takeBatchAt_25 : decode cX1_takeBatchAt 25 = .ok (.aload_n 0, 1) := by decide +kernel
theorem dX1_takeBatchAt_26 : decode cX1_takeBatchAt 26 = .ok (.getfield 12, 3) := by decide +kernel
theorem dX1_takeBatchAt_29 : decode cX1_takeBatchAt 29 = .ok (.getfield 193, 3) := by decide +kernel
theorem dX1_takeBatchAt_32 : decode cX1_takeBatchAt 32 = .ok (.iload 4, 2) := by decide +kernel
theorem dX1_takeBatchAt_34 : decode cX1_takeBatchAt 34 = .ok (.aaload, 1) := by decide +kernel
theorem dX1_takeBatchAt_35 : decode cX1_takeBatchAt 35 = .ok (.astore 5, 2) := by decide +kernel
theorem dX1_takeBatchAt_37 : decode cX1_takeBatchAt 37 = .ok (.aload_n 3, 1) := by decide +kernel
theorem dX1_takeBatchAt_38 : decode cX1_takeBatchAt 38 = .ok (.ifnull 15, 3) := by decide +kernel
theorem dX1_takeBatchAt_41 : decode cX1_takeBatchAt 41 = .ok (.aload 5, 2) := by decide +kernel
theorem dX1_takeBatchAt_43 : decode cX1_takeBatchAt 43 = .ok (.getfield 197, 3) := by decide +kernel
theorem dX1_takeBatchAt_46 : decode cX1_takeBatchAt 46 = .ok (.aload_n 3, 1) := by decide +kernel
theorem dX1_takeBatchAt_47 : decode cX1_takeBatchAt 47 = .ok (.getfield 197, 3) := by decide +kernel
theorem dX1_takeBatchAt_50 : decode cX1_takeBatchAt 50 = .ok (.if_icmp .le 7, 3) := by decide +kernel
theorem dX1_takeBatchAt_53 : decode cX1_takeBatchAt 53 = .ok (.iconst 1, 1) := by decide +kernel
theorem dX1_takeBatchAt_54 : decode cX1_takeBatchAt 54 = .ok (.goto 4, 3) := by decide +kernel
theorem dX1_takeBatchAt_57 : decode cX1_takeBatchAt 57 = .ok (.iconst 0, 1) := by decide +kernel
theorem dX1_takeBatchAt_58 : decode cX1_takeBatchAt 58 = .ok (.istore 6, 2) := by decide +kernel
theorem dX1_takeBatchAt_60 : decode cX1_takeBatchAt 60 = .ok (.iload 6, 2) := by decide +kernel
theorem dX1_takeBatchAt_62 : decode cX1_takeBatchAt 62 = .ok (.ifCond .eq 17, 3) := by decide +kernel
theorem dX1_takeBatchAt_65 : decode cX1_takeBatchAt 65 = .ok (.aload_n 0, 1) := by decide +kernel
theorem dX1_takeBatchAt_66 : decode cX1_takeBatchAt 66 = .ok (.aload 5, 2) := by decide +kernel
theorem dX1_takeBatchAt_68 : decode cX1_takeBatchAt 68 = .ok (.aload_n 1, 1) := by decide +kernel
theorem dX1_takeBatchAt_69 : decode cX1_takeBatchAt 69 = .ok (.iload_n 2, 1) := by decide +kernel
theorem dX1_takeBatchAt_70 : decode cX1_takeBatchAt 70 = .ok (.invokevirtual 200, 3) := by decide +kernel
theorem dX1_takeBatchAt_73 : decode cX1_takeBatchAt 73 = .ok (.ifCond .ne 6, 3) := by decide +kernel
theorem dX1_takeBatchAt_76 : decode cX1_takeBatchAt 76 = .ok (.aload 5, 2) := by decide +kernel
theorem dX1_takeBatchAt_78 : decode cX1_takeBatchAt 78 = .ok (.astore_n 3, 1) := by decide +kernel
theorem dX1_takeBatchAt_79 : decode cX1_takeBatchAt 79 = .ok (.iinc 4 1, 3) := by decide +kernel
theorem dX1_takeBatchAt_82 : decode cX1_takeBatchAt 82 = .ok (.goto (-69), 3) := by decide +kernel
theorem dX1_takeBatchAt_85 : decode cX1_takeBatchAt 85 = .ok (.aload_n 3, 1) := by decide +kernel
theorem dX1_takeBatchAt_86 : decode cX1_takeBatchAt 86 = .ok (.ifnull 10, 3) := by decide +kernel
theorem dX1_takeBatchAt_89 : decode cX1_takeBatchAt 89 = .ok (.aload_n 0, 1) := by decide +kernel
theorem dX1_takeBatchAt_90 : decode cX1_takeBatchAt 90 = .ok (.aload_n 3, 1) := by decide +kernel
theorem dX1_takeBatchAt_91 : decode cX1_takeBatchAt 91 = .ok (.aload_n 1, 1) := by decide +kernel
theorem dX1_takeBatchAt_92 : decode cX1_takeBatchAt 92 = .ok (.iload_n 2, 1) := by decide +kernel
theorem dX1_takeBatchAt_93 : decode cX1_takeBatchAt 93 = .ok (.invokevirtual 204, 3) := by decide +kernel
theorem dX1_takeBatchAt_96 : decode cX1_takeBatchAt 96 = .ok (.return_, 1) := by decide +kernel
theorem dX1_reasonAgainst_0 : decode cX1_reasonAgainst 0 = .ok (.aload_n 1, 1) := by decide +kernel
theorem dX1_reasonAgainst_1 : decode cX1_reasonAgainst 1 = .ok (.invokevirtual 115, 3) := by decide +kernel
theorem dX1_reasonAgainst_4 : decode cX1_reasonAgainst 4 = .ok (.astore 4, 2) := by decide +kernel
theorem dX1_reasonAgainst_6 : decode cX1_reasonAgainst 6 = .ok (.aload_n 1, 1) := by decide +kernel
theorem dX1_reasonAgainst_7 : decode cX1_reasonAgainst 7 = .ok (.getfield 134, 3) := by decide +kernel
theorem dX1_reasonAgainst_10 : decode cX1_reasonAgainst 10 = .ok (.iconst 1, 1) := by decide +kernel
theorem dX1_reasonAgainst_11 : decode cX1_reasonAgainst 11 = .ok (.if_icmp .ne 8, 3) := by decide +kernel
theorem dX1_reasonAgainst_14 : decode cX1_reasonAgainst 14 = .ok (.aload 4, 2) := by decide +kernel
theorem dX1_reasonAgainst_16 : decode cX1_reasonAgainst 16 = .ok (.ifnonnull 5, 3) := by decide +kernel
theorem dX1_reasonAgainst_19 : decode cX1_reasonAgainst 19 = .ok (.iconst 1, 1) := by decide +kernel
theorem dX1_reasonAgainst_20 : decode cX1_reasonAgainst 20 = .ok (.ireturn, 1) := by decide +kernel
theorem dX1_reasonAgainst_21 : decode cX1_reasonAgainst 21 = .ok (.aload_n 1, 1) := by decide +kernel
theorem dX1_reasonAgainst_22 : decode cX1_reasonAgainst 22 = .ok (.getfield 208, 3) := by decide +kernel
theorem dX1_reasonAgainst_25 : decode cX1_reasonAgainst 25 = .ok (.ifCond .eq 5, 3) := by decide +kernel
theorem dX1_reasonAgainst_28 : decode cX1_reasonAgainst 28 = .ok (.iconst 2, 1) := by decide +kernel
theorem dX1_reasonAgainst_29 : decode cX1_reasonAgainst 29 = .ok (.ireturn, 1) := by decide +kernel
theorem dX1_reasonAgainst_30 : decode cX1_reasonAgainst 30 = .ok (.aload_n 2, 1) := by decide +kernel
theorem dX1_reasonAgainst_31 : decode cX1_reasonAgainst 31 = .ok (.aload 4, 2) := by decide +kernel
theorem dX1_reasonAgainst_33 : decode cX1_reasonAgainst 33 = .ok (.invokevirtual 211, 3) := by decide +kernel
theorem dX1_reasonAgainst_36 : decode cX1_reasonAgainst 36 = .ok (.ifCond .ne 5, 3) := by decide +kernel
theorem dX1_reasonAgainst_39 : decode cX1_reasonAgainst 39 = .ok (.iconst 3, 1) := by decide +kernel
theorem dX1_reasonAgainst_40 : decode cX1_reasonAgainst 40 = .ok (.ireturn, 1) := by decide +kernel
theorem dX1_reasonAgainst_41 : decode cX1_reasonAgainst 41 = .ok (.aload_n 2, 1) := by decide +kernel
theorem dX1_reasonAgainst_42 : decode cX1_reasonAgainst 42 = .ok (.invokevirtual 186, 3) := by decide +kernel
theorem dX1_reasonAgainst_45 : decode cX1_reasonAgainst 45 = .ok (.ifCond .ne 5, 3) := by decide +kernel
theorem dX1_reasonAgainst_48 : decode cX1_reasonAgainst 48 = .ok (.iconst 4, 1) := by decide +kernel
theorem dX1_reasonAgainst_49 : decode cX1_reasonAgainst 49 = .ok (.ireturn, 1) := by decide +kernel
theorem dX1_reasonAgainst_50 : decode cX1_reasonAgainst 50 = .ok (.aload_n 0, 1) := by decide +kernel
theorem dX1_reasonAgainst_51 : decode cX1_reasonAgainst 51 = .ok (.aload 4, 2) := by decide +kernel
theorem dX1_reasonAgainst_53 : decode cX1_reasonAgainst 53 = .ok (.iload_n 3, 1) := by decide +kernel
theorem dX1_reasonAgainst_54 : decode cX1_reasonAgainst 54 = .ok (.invokevirtual 214, 3) := by decide +kernel
theorem dX1_reasonAgainst_57 : decode cX1_reasonAgainst 57 = .ok (.ifnonnull 5, 3) := by decide +kernel
theorem dX1_reasonAgainst_60 : decode cX1_reasonAgainst 60 = .ok (.iconst 5, 1) := by decide +kernel
theorem dX1_reasonAgainst_61 : decode cX1_reasonAgainst 61 = .ok (.ireturn, 1) := by decide +kernel
theorem dX1_reasonAgainst_62 : decode cX1_reasonAgainst 62 = .ok (.aload_n 1, 1) := by decide +kernel
theorem dX1_reasonAgainst_63 : decode cX1_reasonAgainst 63 = .ok (.invokevirtual 218, 3) := by decide +kernel
theorem dX1_reasonAgainst_66 : decode cX1_reasonAgainst 66 = .ok (.ifCond .eq 22, 3) := by decide +kernel
theorem dX1_reasonAgainst_69 : decode cX1_reasonAgainst 69 = .ok (.aload_n 1, 1) := by decide +kernel
theorem dX1_reasonAgainst_70 : decode cX1_reasonAgainst 70 = .ok (.getfield 137, 3) := by decide +kernel
theorem dX1_reasonAgainst_73 : decode cX1_reasonAgainst 73 = .ok (.aload_n 1, 1) := by decide +kernel
theorem dX1_reasonAgainst_74 : decode cX1_reasonAgainst 74 = .ok (.getfield 147, 3) := by decide +kernel
theorem dX1_reasonAgainst_77 : decode cX1_reasonAgainst 77 = .ok (.invokevirtual 221, 3) := by decide +kernel
theorem dX1_reasonAgainst_80 : decode cX1_reasonAgainst 80 = .ok (.ifCond .ne 8, 3) := by decide +kernel
theorem dX1_reasonAgainst_83 : decode cX1_reasonAgainst 83 = .ok (.bipush 6, 2) := by decide +kernel
theorem dX1_reasonAgainst_85 : decode cX1_reasonAgainst 85 = .ok (.goto 4, 3) := by decide +kernel
theorem dX1_reasonAgainst_88 : decode cX1_reasonAgainst 88 = .ok (.iconst 0, 1) := by decide +kernel
theorem dX1_reasonAgainst_89 : decode cX1_reasonAgainst 89 = .ok (.ireturn, 1) := by decide +kernel
theorem dX1_personFor_0 : decode cX1_personFor 0 = .ok (.aload_n 1, 1) := by decide +kernel
theorem dX1_personFor_1 : decode cX1_personFor 1 = .ok (.getfield 119, 3) := by decide +kernel
theorem dX1_personFor_4 : decode cX1_personFor 4 = .ok (.istore_n 3, 1) := by decide +kernel
theorem dX1_personFor_5 : decode cX1_personFor 5 = .ok (.aconst_null, 1) := by decide +kernel
theorem dX1_personFor_6 : decode cX1_personFor 6 = .ok (.astore 4, 2) := by decide +kernel
theorem dX1_personFor_8 : decode cX1_personFor 8 = .ok (.iconst 0, 1) := by decide +kernel
theorem dX1_personFor_9 : decode cX1_personFor 9 = .ok (.istore 5, 2) := by decide +kernel
theorem dX1_personFor_11 : decode cX1_personFor 11 = .ok (.iload 5, 2) := by decide +kernel
theorem dX1_personFor_13 : decode cX1_personFor 13 = .ok (.aload_n 0, 1) := by decide +kernel
theorem dX1_personFor_14 : decode cX1_personFor 14 = .ok (.getfield 41, 3) := by decide +kernel
theorem dX1_personFor_17 : decode cX1_personFor 17 = .ok (.if_icmp .ge 66, 3) := by decide +kernel
theorem dX1_personFor_20 : decode cX1_personFor 20 = .ok (.aload_n 0, 1) := by decide +kernel
theorem dX1_personFor_21 : decode cX1_personFor 21 = .ok (.getfield 26, 3) := by decide +kernel
theorem dX1_personFor_24 : decode cX1_personFor 24 = .ok (.iload 5, 2) := by decide +kernel
theorem dX1_personFor_26 : decode cX1_personFor 26 = .ok (.aaload, 1) := by decide +kernel
theorem dX1_personFor_27 : decode cX1_personFor 27 = .ok (.astore 6, 2) := by decide +kernel
theorem dX1_personFor_29 : decode cX1_personFor 29 = .ok (.aload 4, 2) := by decide +kernel
theorem dX1_personFor_31 : decode cX1_personFor 31 = .ok (.ifnull 20, 3) := by decide +kernel
theorem dX1_personFor_34 : decode cX1_personFor 34 = .ok (.aload 6, 2) := by decide +kernel
theorem dX1_personFor_36 : decode cX1_personFor 36 = .ok (.getfield 224, 3) := by decide +kernel
theorem dX1_personFor_39 : decode cX1_personFor 39 = .ok (.iload_n 3, 1) := by decide +kernel
theorem dX1_personFor_40 : decode cX1_personFor 40 = .ok (.iaload, 1) := by decide +kernel
theorem dX1_personFor_41 : decode cX1_personFor 41 = .ok (.aload 4, 2) := by decide +kernel
theorem dX1_personFor_43 : decode cX1_personFor 43 = .ok (.getfield 224, 3) := by decide +kernel
theorem dX1_personFor_46 : decode cX1_personFor 46 = .ok (.iload_n 3, 1) := by decide +kernel
theorem dX1_personFor_47 : decode cX1_personFor 47 = .ok (.iaload, 1) := by decide +kernel
theorem dX1_personFor_48 : decode cX1_personFor 48 = .ok (.if_icmp .le 7, 3) := by decide +kernel
theorem dX1_personFor_51 : decode cX1_personFor 51 = .ok (.iconst 1, 1) := by decide +kernel
theorem dX1_personFor_52 : decode cX1_personFor 52 = .ok (.goto 4, 3) := by decide +kernel
theorem dX1_personFor_55 : decode cX1_personFor 55 = .ok (.iconst 0, 1) := by decide +kernel
theorem dX1_personFor_56 : decode cX1_personFor 56 = .ok (.istore 7, 2) := by decide +kernel
theorem dX1_personFor_58 : decode cX1_personFor 58 = .ok (.iload 7, 2) := by decide +kernel
theorem dX1_personFor_60 : decode cX1_personFor 60 = .ok (.ifCond .eq 17, 3) := by decide +kernel
theorem dX1_personFor_63 : decode cX1_personFor 63 = .ok (.aload 6, 2) := by decide +kernel
theorem dX1_personFor_65 : decode cX1_personFor 65 = .ok (.iload_n 3, 1) := by decide +kernel
theorem dX1_personFor_66 : decode cX1_personFor 66 = .ok (.iload_n 2, 1) := by decide +kernel
theorem dX1_personFor_67 : decode cX1_personFor 67 = .ok (.invokevirtual 228, 3) := by decide +kernel
theorem dX1_personFor_70 : decode cX1_personFor 70 = .ok (.ifCond .eq 7, 3) := by decide +kernel
theorem dX1_personFor_73 : decode cX1_personFor 73 = .ok (.aload 6, 2) := by decide +kernel
theorem dX1_personFor_75 : decode cX1_personFor 75 = .ok (.astore 4, 2) := by decide +kernel
theorem dX1_personFor_77 : decode cX1_personFor 77 = .ok (.iinc 5 1, 3) := by decide +kernel
theorem dX1_personFor_80 : decode cX1_personFor 80 = .ok (.goto (-69), 3) := by decide +kernel
theorem dX1_personFor_83 : decode cX1_personFor 83 = .ok (.aload 4, 2) := by decide +kernel
theorem dX1_personFor_85 : decode cX1_personFor 85 = .ok (.areturn, 1) := by decide +kernel
theorem dX1_begin_0 : decode cX1_begin 0 = .ok (.aload_n 1, 1) := by decide +kernel
theorem dX1_begin_1 : decode cX1_begin 1 = .ok (.invokevirtual 115, 3) := by decide +kernel
theorem dX1_begin_4 : decode cX1_begin 4 = .ok (.astore 4, 2) := by decide +kernel
theorem dX1_begin_6 : decode cX1_begin 6 = .ok (.aload 4, 2) := by decide +kernel
theorem dX1_begin_8 : decode cX1_begin 8 = .ok (.ifnonnull 7, 3) := by decide +kernel
theorem dX1_begin_11 : decode cX1_begin 11 = .ok (.aconst_null, 1) := by decide +kernel
theorem dX1_begin_12 : decode cX1_begin 12 = .ok (.goto 10, 3) := by decide +kernel
theorem dX1_begin_15 : decode cX1_begin 15 = .ok (.aload_n 0, 1) := by decide +kernel
theorem dX1_begin_16 : decode cX1_begin 16 = .ok (.aload 4, 2) := by decide +kernel
theorem dX1_begin_18 : decode cX1_begin 18 = .ok (.iload_n 3, 1) := by decide +kernel
theorem dX1_begin_19 : decode cX1_begin 19 = .ok (.invokevirtual 214, 3) := by decide +kernel
theorem dX1_begin_22 : decode cX1_begin 22 = .ok (.astore 5, 2) := by decide +kernel
theorem dX1_begin_24 : decode cX1_begin 24 = .ok (.aload 5, 2) := by decide +kernel
theorem dX1_begin_26 : decode cX1_begin 26 = .ok (.ifnonnull 4, 3) := by decide +kernel
theorem dX1_begin_29 : decode cX1_begin 29 = .ok (.return_, 1) := by decide +kernel
theorem dX1_begin_30 : decode cX1_begin 30 = .ok (.aload_n 1, 1) := by decide +kernel
theorem dX1_begin_31 : decode cX1_begin 31 = .ok (.invokevirtual 218, 3) := by decide +kernel
theorem dX1_begin_34 : decode cX1_begin 34 = .ok (.ifCond .eq 8, 3) := by decide +kernel
theorem dX1_begin_37 : decode cX1_begin 37 = .ok (.aload_n 0, 1) := by decide +kernel
theorem dX1_begin_38 : decode cX1_begin 38 = .ok (.aload_n 1, 1) := by decide +kernel
theorem dX1_begin_39 : decode cX1_begin 39 = .ok (.invokevirtual 232, 3) := by decide +kernel
theorem dX1_begin_42 : decode cX1_begin 42 = .ok (.aload_n 2, 1) := by decide +kernel
theorem dX1_begin_43 : decode cX1_begin 43 = .ok (.aload_n 1, 1) := by decide +kernel
theorem dX1_begin_44 : decode cX1_begin 44 = .ok (.aload 4, 2) := by decide +kernel
theorem dX1_begin_46 : decode cX1_begin 46 = .ok (.aload 5, 2) := by decide +kernel
theorem dX1_begin_48 : decode cX1_begin 48 = .ok (.invokevirtual 235, 3) := by decide +kernel
theorem dX1_begin_51 : decode cX1_begin 51 = .ok (.return_, 1) := by decide +kernel
theorem dX1_takeParts_0 : decode cX1_takeParts 0 = .ok (.iconst 0, 1) := by decide +kernel
theorem dX1_takeParts_1 : decode cX1_takeParts 1 = .ok (.istore_n 2, 1) := by decide +kernel
theorem dX1_takeParts_2 : decode cX1_takeParts 2 = .ok (.iload_n 2, 1) := by decide +kernel
theorem dX1_takeParts_3 : decode cX1_takeParts 3 = .ok (.aload_n 1, 1) := by decide +kernel
theorem dX1_takeParts_4 : decode cX1_takeParts 4 = .ok (.getfield 137, 3) := by decide +kernel
theorem dX1_takeParts_7 : decode cX1_takeParts 7 = .ok (.getfield 238, 3) := by decide +kernel
theorem dX1_takeParts_10 : decode cX1_takeParts 10 = .ok (.if_icmp .ge 52, 3) := by decide +kernel
theorem dX1_takeParts_13 : decode cX1_takeParts 13 = .ok (.aload_n 1, 1) := by decide +kernel
theorem dX1_takeParts_14 : decode cX1_takeParts 14 = .ok (.getfield 137, 3) := by decide +kernel
theorem dX1_takeParts_17 : decode cX1_takeParts 17 = .ok (.getfield 241, 3) := by decide +kernel
theorem dX1_takeParts_20 : decode cX1_takeParts 20 = .ok (.iload_n 2, 1) := by decide +kernel
theorem dX1_takeParts_21 : decode cX1_takeParts 21 = .ok (.aaload, 1) := by decide +kernel
theorem dX1_takeParts_22 : decode cX1_takeParts 22 = .ok (.astore_n 3, 1) := by decide +kernel
theorem dX1_takeParts_23 : decode cX1_takeParts 23 = .ok (.aload_n 3, 1) := by decide +kernel
theorem dX1_takeParts_24 : decode cX1_takeParts 24 = .ok (.aload_n 1, 1) := by decide +kernel
theorem dX1_takeParts_25 : decode cX1_takeParts 25 = .ok (.getfield 147, 3) := by decide +kernel
theorem dX1_takeParts_28 : decode cX1_takeParts 28 = .ok (.invokevirtual 245, 3) := by decide +kernel
theorem dX1_takeParts_31 : decode cX1_takeParts 31 = .ok (.astore 4, 2) := by decide +kernel
theorem dX1_takeParts_33 : decode cX1_takeParts 33 = .ok (.aload 4, 2) := by decide +kernel
theorem dX1_takeParts_35 : decode cX1_takeParts 35 = .ok (.ifnull 21, 3) := by decide +kernel
theorem dX1_takeParts_38 : decode cX1_takeParts 38 = .ok (.aload_n 0, 1) := by decide +kernel
theorem dX1_takeParts_39 : decode cX1_takeParts 39 = .ok (.getfield 12, 3) := by decide +kernel
theorem dX1_takeParts_42 : decode cX1_takeParts 42 = .ok (.aload_n 1, 1) := by decide +kernel
theorem dX1_takeParts_43 : decode cX1_takeParts 43 = .ok (.aload 4, 2) := by decide +kernel
theorem dX1_takeParts_45 : decode cX1_takeParts 45 = .ok (.aload_n 3, 1) := by decide +kernel
theorem dX1_takeParts_46 : decode cX1_takeParts 46 = .ok (.aload_n 1, 1) := by decide +kernel
theorem dX1_takeParts_47 : decode cX1_takeParts 47 = .ok (.getfield 147, 3) := by decide +kernel
theorem dX1_takeParts_50 : decode cX1_takeParts 50 = .ok (.invokevirtual 251, 3) := by decide +kernel
theorem dX1_takeParts_53 : decode cX1_takeParts 53 = .ok (.invokevirtual 255, 3) := by decide +kernel
theorem dX1_takeParts_56 : decode cX1_takeParts 56 = .ok (.iinc 2 1, 3) := by decide +kernel
theorem dX1_takeParts_59 : decode cX1_takeParts 59 = .ok (.goto (-57), 3) := by decide +kernel
theorem dX1_takeParts_62 : decode cX1_takeParts 62 = .ok (.return_, 1) := by decide +kernel
theorem dX1_scrap_0 : decode cX1_scrap 0 = .ok (.aload_n 1, 1) := by decide +kernel
theorem dX1_scrap_1 : decode cX1_scrap 1 = .ok (.getfield 134, 3) := by decide +kernel
theorem dX1_scrap_4 : decode cX1_scrap 4 = .ok (.iconst 3, 1) := by decide +kernel
theorem dX1_scrap_5 : decode cX1_scrap 5 = .ok (.if_icmp .ne 19, 3) := by decide +kernel
theorem dX1_scrap_8 : decode cX1_scrap 8 = .ok (.aload_n 1, 1) := by decide +kernel
theorem dX1_scrap_9 : decode cX1_scrap 9 = .ok (.getfield 137, 3) := by decide +kernel
theorem dX1_scrap_12 : decode cX1_scrap 12 = .ok (.dup, 1) := by decide +kernel
theorem dX1_scrap_13 : decode cX1_scrap 13 = .ok (.getfield 259, 3) := by decide +kernel
theorem dX1_scrap_16 : decode cX1_scrap 16 = .ok (.aload_n 1, 1) := by decide +kernel
theorem dX1_scrap_17 : decode cX1_scrap 17 = .ok (.getfield 147, 3) := by decide +kernel
theorem dX1_scrap_20 : decode cX1_scrap 20 = .ok (.isub, 1) := by decide +kernel
theorem dX1_scrap_21 : decode cX1_scrap 21 = .ok (.putfield 259, 3) := by decide +kernel
theorem dX1_scrap_24 : decode cX1_scrap 24 = .ok (.aload_n 1, 1) := by decide +kernel
theorem dX1_scrap_25 : decode cX1_scrap 25 = .ok (.iconst 5, 1) := by decide +kernel
theorem dX1_scrap_26 : decode cX1_scrap 26 = .ok (.putfield 134, 3) := by decide +kernel
theorem dX1_scrap_29 : decode cX1_scrap 29 = .ok (.iconst 0, 1) := by decide +kernel
theorem dX1_scrap_30 : decode cX1_scrap 30 = .ok (.istore_n 2, 1) := by decide +kernel
theorem dX1_scrap_31 : decode cX1_scrap 31 = .ok (.iload_n 2, 1) := by decide +kernel
theorem dX1_scrap_32 : decode cX1_scrap 32 = .ok (.aload_n 0, 1) := by decide +kernel
theorem dX1_scrap_33 : decode cX1_scrap 33 = .ok (.getfield 30, 3) := by decide +kernel
theorem dX1_scrap_36 : decode cX1_scrap 36 = .ok (.if_icmp .ge 31, 3) := by decide +kernel
theorem dX1_scrap_39 : decode cX1_scrap 39 = .ok (.aload_n 0, 1) := by decide +kernel
theorem dX1_scrap_40 : decode cX1_scrap 40 = .ok (.getfield 20, 3) := by decide +kernel
theorem dX1_scrap_43 : decode cX1_scrap 43 = .ok (.iload_n 2, 1) := by decide +kernel
theorem dX1_scrap_44 : decode cX1_scrap 44 = .ok (.aaload, 1) := by decide +kernel
theorem dX1_scrap_45 : decode cX1_scrap 45 = .ok (.getfield 61, 3) := by decide +kernel
theorem dX1_scrap_48 : decode cX1_scrap 48 = .ok (.aload_n 1, 1) := by decide +kernel
theorem dX1_scrap_49 : decode cX1_scrap 49 = .ok (.if_acmp .ne 12, 3) := by decide +kernel
theorem dX1_scrap_52 : decode cX1_scrap 52 = .ok (.aload_n 0, 1) := by decide +kernel
theorem dX1_scrap_53 : decode cX1_scrap 53 = .ok (.getfield 20, 3) := by decide +kernel
theorem dX1_scrap_56 : decode cX1_scrap 56 = .ok (.iload_n 2, 1) := by decide +kernel
theorem dX1_scrap_57 : decode cX1_scrap 57 = .ok (.aaload, 1) := by decide +kernel
theorem dX1_scrap_58 : decode cX1_scrap 58 = .ok (.invokevirtual 99, 3) := by decide +kernel
theorem dX1_scrap_61 : decode cX1_scrap 61 = .ok (.iinc 2 1, 3) := by decide +kernel
theorem dX1_scrap_64 : decode cX1_scrap 64 = .ok (.goto (-33), 3) := by decide +kernel
theorem dX1_scrap_67 : decode cX1_scrap 67 = .ok (.return_, 1) := by decide +kernel
theorem dX2_init_0 : decode cX2_init 0 = .ok (.aload_n 0, 1) := by decide +kernel
theorem dX2_init_1 : decode cX2_init 1 = .ok (.invokespecial 3, 3) := by decide +kernel
theorem dX2_init_4 : decode cX2_init 4 = .ok (.aload_n 0, 1) := by decide +kernel
theorem dX2_init_5 : decode cX2_init 5 = .ok (.iconst 3, 1) := by decide +kernel
theorem dX2_init_6 : decode cX2_init 6 = .ok (.anewarray 9, 3) := by decide +kernel
theorem dX2_init_9 : decode cX2_init 9 = .ok (.putfield 11, 3) := by decide +kernel
theorem dX2_init_12 : decode cX2_init 12 = .ok (.aload_n 0, 1) := by decide +kernel
theorem dX2_init_13 : decode cX2_init 13 = .ok (.iconst 4, 1) := by decide +kernel
theorem dX2_init_14 : decode cX2_init 14 = .ok (.anewarray 17, 3) := by decide +kernel
theorem dX2_init_17 : decode cX2_init 17 = .ok (.putfield 19, 3) := by decide +kernel
theorem dX2_init_20 : decode cX2_init 20 = .ok (.aload_n 0, 1) := by decide +kernel
theorem dX2_init_21 : decode cX2_init 21 = .ok (.bipush 20, 2) := by decide +kernel
theorem dX2_init_23 : decode cX2_init 23 = .ok (.putfield 23, 3) := by decide +kernel
theorem dX2_init_26 : decode cX2_init 26 = .ok (.aload_n 0, 1) := by decide +kernel
theorem dX2_init_27 : decode cX2_init 27 = .ok (.iload_n 1, 1) := by decide +kernel
theorem dX2_init_28 : decode cX2_init 28 = .ok (.putfield 27, 3) := by decide +kernel
theorem dX2_init_31 : decode cX2_init 31 = .ok (.return_, 1) := by decide +kernel
theorem dX2_canBeMade_0 : decode cX2_canBeMade 0 = .ok (.aload_n 0, 1) := by decide +kernel
theorem dX2_canBeMade_1 : decode cX2_canBeMade 1 = .ok (.getfield 30, 3) := by decide +kernel
theorem dX2_canBeMade_4 : decode cX2_canBeMade 4 = .ok (.ifCond .ne 14, 3) := by decide +kernel
theorem dX2_canBeMade_7 : decode cX2_canBeMade 7 = .ok (.aload_n 0, 1) := by decide +kernel
theorem dX2_canBeMade_8 : decode cX2_canBeMade 8 = .ok (.getfield 34, 3) := by decide +kernel
theorem dX2_canBeMade_11 : decode cX2_canBeMade 11 = .ok (.ifCond .ne 7, 3) := by decide +kernel
theorem dX2_canBeMade_14 : decode cX2_canBeMade 14 = .ok (.iconst 1, 1) := by decide +kernel
theorem dX2_canBeMade_15 : decode cX2_canBeMade 15 = .ok (.goto 4, 3) := by decide +kernel
theorem dX2_canBeMade_18 : decode cX2_canBeMade 18 = .ok (.iconst 0, 1) := by decide +kernel
theorem dX2_canBeMade_19 : decode cX2_canBeMade 19 = .ok (.ireturn, 1) := by decide +kernel
theorem dX2_putLine_0 : decode cX2_putLine 0 = .ok (.aload_n 0, 1) := by decide +kernel
theorem dX2_putLine_1 : decode cX2_putLine 1 = .ok (.getfield 37, 3) := by decide +kernel
theorem dX2_putLine_4 : decode cX2_putLine 4 = .ok (.aload_n 0, 1) := by decide +kernel
theorem dX2_putLine_5 : decode cX2_putLine 5 = .ok (.getfield 11, 3) := by decide +kernel
theorem dX2_putLine_8 : decode cX2_putLine 8 = .ok (.arraylength, 1) := by decide +kernel
theorem dX2_putLine_9 : decode cX2_putLine 9 = .ok (.if_icmp .lt 13, 3) := by decide +kernel
theorem dX2_putLine_12 : decode cX2_putLine 12 = .ok (.new 40, 3) := by decide +kernel
theorem dX2_putLine_15 : decode cX2_putLine 15 = .ok (.dup, 1) := by decide +kernel
theorem dX2_putLine_16 : decode cX2_putLine 16 = .ok (.ldc 42, 2) := by decide +kernel
theorem dX2_putLine_18 : decode cX2_putLine 18 = .ok (.invokespecial 44, 3) := by decide +kernel
theorem dX2_putLine_21 : decode cX2_putLine 21 = .ok (.athrow, 1) := by decide +kernel
theorem dX2_putLine_22 : decode cX2_putLine 22 = .ok (.aload_n 0, 1) := by decide +kernel
theorem dX2_putLine_23 : decode cX2_putLine 23 = .ok (.getfield 11, 3) := by decide +kernel
theorem dX2_putLine_26 : decode cX2_putLine 26 = .ok (.aload_n 0, 1) := by decide +kernel
theorem dX2_putLine_27 : decode cX2_putLine 27 = .ok (.getfield 37, 3) := by decide +kernel
theorem dX2_putLine_30 : decode cX2_putLine 30 = .ok (.aload_n 1, 1) := by decide +kernel
theorem dX2_putLine_31 : decode cX2_putLine 31 = .ok (.aastore, 1) := by decide +kernel
theorem dX2_putLine_32 : decode cX2_putLine 32 = .ok (.aload_n 0, 1) := by decide +kernel
theorem dX2_putLine_33 : decode cX2_putLine 33 = .ok (.dup, 1) := by decide +kernel
theorem dX2_putLine_34 : decode cX2_putLine 34 = .ok (.getfield 37, 3) := by decide +kernel
theorem dX2_putLine_37 : decode cX2_putLine 37 = .ok (.iconst 1, 1) := by decide +kernel
theorem dX2_putLine_38 : decode cX2_putLine 38 = .ok (.iadd, 1) := by decide +kernel
theorem dX2_putLine_39 : decode cX2_putLine 39 = .ok (.putfield 37, 3) := by decide +kernel
theorem dX2_putLine_42 : decode cX2_putLine 42 = .ok (.aload_n 0, 1) := by decide +kernel
theorem dX2_putLine_43 : decode cX2_putLine 43 = .ok (.getfield 37, 3) := by decide +kernel
theorem dX2_putLine_46 : decode cX2_putLine 46 = .ok (.ireturn, 1) := by decide +kernel
theorem dX2_putOperation_0 : decode cX2_putOperation 0 = .ok (.aload_n 0, 1) := by decide +kernel
theorem dX2_putOperation_1 : decode cX2_putOperation 1 = .ok (.getfield 47, 3) := by decide +kernel
theorem dX2_putOperation_4 : decode cX2_putOperation 4 = .ok (.aload_n 0, 1) := by decide +kernel
theorem dX2_putOperation_5 : decode cX2_putOperation 5 = .ok (.getfield 19, 3) := by decide +kernel
theorem dX2_putOperation_8 : decode cX2_putOperation 8 = .ok (.arraylength, 1) := by decide +kernel
theorem dX2_putOperation_9 : decode cX2_putOperation 9 = .ok (.if_icmp .lt 13, 3) := by decide +kernel
theorem dX2_putOperation_12 : decode cX2_putOperation 12 = .ok (.new 40, 3) := by decide +kernel
theorem dX2_putOperation_15 : decode cX2_putOperation 15 = .ok (.dup, 1) := by decide +kernel
theorem dX2_putOperation_16 : decode cX2_putOperation 16 = .ok (.ldc 50, 2) := by decide +kernel
theorem dX2_putOperation_18 : decode cX2_putOperation 18 = .ok (.invokespecial 44, 3) := by decide +kernel
theorem dX2_putOperation_21 : decode cX2_putOperation 21 = .ok (.athrow, 1) := by decide +kernel
theorem dX2_putOperation_22 : decode cX2_putOperation 22 = .ok (.aload_n 0, 1) := by decide +kernel
theorem dX2_putOperation_23 : decode cX2_putOperation 23 = .ok (.getfield 19, 3) := by decide +kernel
theorem dX2_putOperation_26 : decode cX2_putOperation 26 = .ok (.aload_n 0, 1) := by decide +kernel
theorem dX2_putOperation_27 : decode cX2_putOperation 27 = .ok (.getfield 47, 3) := by decide +kernel
theorem dX2_putOperation_30 : decode cX2_putOperation 30 = .ok (.aload_n 1, 1) := by decide +kernel
theorem dX2_putOperation_31 : decode cX2_putOperation 31 = .ok (.aastore, 1) := by decide +kernel
theorem dX2_putOperation_32 : decode cX2_putOperation 32 = .ok (.aload_n 0, 1) := by decide +kernel
theorem dX2_putOperation_33 : decode cX2_putOperation 33 = .ok (.dup, 1) := by decide +kernel
theorem dX2_putOperation_34 : decode cX2_putOperation 34 = .ok (.getfield 47, 3) := by decide +kernel
theorem dX2_putOperation_37 : decode cX2_putOperation 37 = .ok (.iconst 1, 1) := by decide +kernel
theorem dX2_putOperation_38 : decode cX2_putOperation 38 = .ok (.iadd, 1) := by decide +kernel
theorem dX2_putOperation_39 : decode cX2_putOperation 39 = .ok (.putfield 47, 3) := by decide +kernel
theorem dX2_putOperation_42 : decode cX2_putOperation 42 = .ok (.aload_n 0, 1) := by decide +kernel
theorem dX2_putOperation_43 : decode cX2_putOperation 43 = .ok (.getfield 47, 3) := by decide +kernel
theorem dX2_putOperation_46 : decode cX2_putOperation 46 = .ok (.ireturn, 1) := by decide +kernel
theorem dX2_operationAt_0 : decode cX2_operationAt 0 = .ok (.iload_n 1, 1) := by decide +kernel
theorem dX2_operationAt_1 : decode cX2_operationAt 1 = .ok (.ifCond .lt 20, 3) := by decide +kernel
theorem dX2_operationAt_4 : decode cX2_operationAt 4 = .ok (.iload_n 1, 1) := by decide +kernel
theorem dX2_operationAt_5 : decode cX2_operationAt 5 = .ok (.aload_n 0, 1) := by decide +kernel
theorem dX2_operationAt_6 : decode cX2_operationAt 6 = .ok (.getfield 47, 3) := by decide +kernel
theorem dX2_operationAt_9 : decode cX2_operationAt 9 = .ok (.if_icmp .ge 12, 3) := by decide +kernel
theorem dX2_operationAt_12 : decode cX2_operationAt 12 = .ok (.aload_n 0, 1) := by decide +kernel
theorem dX2_operationAt_13 : decode cX2_operationAt 13 = .ok (.getfield 19, 3) := by decide +kernel
theorem dX2_operationAt_16 : decode cX2_operationAt 16 = .ok (.iload_n 1, 1) := by decide +kernel
theorem dX2_operationAt_17 : decode cX2_operationAt 17 = .ok (.aaload, 1) := by decide +kernel
theorem dX2_operationAt_18 : decode cX2_operationAt 18 = .ok (.goto 4, 3) := by decide +kernel
theorem dX2_operationAt_21 : decode cX2_operationAt 21 = .ok (.aconst_null, 1) := by decide +kernel
theorem dX2_operationAt_22 : decode cX2_operationAt 22 = .ok (.areturn, 1) := by decide +kernel
theorem dX2_hasStoreRoom_0 : decode cX2_hasStoreRoom 0 = .ok (.aload_n 0, 1) := by decide +kernel
theorem dX2_hasStoreRoom_1 : decode cX2_hasStoreRoom 1 = .ok (.getfield 52, 3) := by decide +kernel
theorem dX2_hasStoreRoom_4 : decode cX2_hasStoreRoom 4 = .ok (.iload_n 1, 1) := by decide +kernel
theorem dX2_hasStoreRoom_5 : decode cX2_hasStoreRoom 5 = .ok (.iadd, 1) := by decide +kernel
theorem dX2_hasStoreRoom_6 : decode cX2_hasStoreRoom 6 = .ok (.aload_n 0, 1) := by decide +kernel
theorem dX2_hasStoreRoom_7 : decode cX2_hasStoreRoom 7 = .ok (.getfield 23, 3) := by decide +kernel
theorem dX2_hasStoreRoom_10 : decode cX2_hasStoreRoom 10 = .ok (.if_icmp .gt 7, 3) := by decide +kernel
theorem dX2_hasStoreRoom_13 : decode cX2_hasStoreRoom 13 = .ok (.iconst 1, 1) := by decide +kernel
theorem dX2_hasStoreRoom_14 : decode cX2_hasStoreRoom 14 = .ok (.goto 4, 3) := by decide +kernel
theorem dX2_hasStoreRoom_17 : decode cX2_hasStoreRoom 17 = .ok (.iconst 0, 1) := by decide +kernel
theorem dX2_hasStoreRoom_18 : decode cX2_hasStoreRoom 18 = .ok (.ireturn, 1) := by decide +kernel
theorem dX2_free_0 : decode cX2_free 0 = .ok (.aload_n 0, 1) := by decide +kernel
theorem dX2_free_1 : decode cX2_free 1 = .ok (.getfield 52, 3) := by decide +kernel
theorem dX2_free_4 : decode cX2_free 4 = .ok (.aload_n 0, 1) := by decide +kernel
theorem dX2_free_5 : decode cX2_free 5 = .ok (.getfield 55, 3) := by decide +kernel
theorem dX2_free_8 : decode cX2_free 8 = .ok (.isub, 1) := by decide +kernel
theorem dX2_free_9 : decode cX2_free 9 = .ok (.aload_n 0, 1) := by decide +kernel
theorem dX2_free_10 : decode cX2_free 10 = .ok (.getfield 58, 3) := by decide +kernel
theorem dX2_free_13 : decode cX2_free 13 = .ok (.isub, 1) := by decide +kernel
theorem dX2_free_14 : decode cX2_free 14 = .ok (.ireturn, 1) := by decide +kernel
theorem dX2_hasPartsFor_0 : decode cX2_hasPartsFor 0 = .ok (.iconst 1, 1) := by decide +kernel
theorem dX2_hasPartsFor_1 : decode cX2_hasPartsFor 1 = .ok (.istore_n 2, 1) := by decide +kernel
theorem dX2_hasPartsFor_2 : decode cX2_hasPartsFor 2 = .ok (.iconst 0, 1) := by decide +kernel
theorem dX2_hasPartsFor_3 : decode cX2_hasPartsFor 3 = .ok (.istore_n 3, 1) := by decide +kernel
theorem dX2_hasPartsFor_4 : decode cX2_hasPartsFor 4 = .ok (.iload_n 3, 1) := by decide +kernel
theorem dX2_hasPartsFor_5 : decode cX2_hasPartsFor 5 = .ok (.aload_n 0, 1) := by decide +kernel
theorem dX2_hasPartsFor_6 : decode cX2_hasPartsFor 6 = .ok (.getfield 37, 3) := by decide +kernel
theorem dX2_hasPartsFor_9 : decode cX2_hasPartsFor 9 = .ok (.if_icmp .ge 51, 3) := by decide +kernel
theorem dX2_hasPartsFor_12 : decode cX2_hasPartsFor 12 = .ok (.aload_n 0, 1) := by decide +kernel
theorem dX2_hasPartsFor_13 : decode cX2_hasPartsFor 13 = .ok (.getfield 11, 3) := by decide +kernel
theorem dX2_hasPartsFor_16 : decode cX2_hasPartsFor 16 = .ok (.iload_n 3, 1) := by decide +kernel
theorem dX2_hasPartsFor_17 : decode cX2_hasPartsFor 17 = .ok (.aaload, 1) := by decide +kernel
theorem dX2_hasPartsFor_18 : decode cX2_hasPartsFor 18 = .ok (.iload_n 1, 1) := by decide +kernel
theorem dX2_hasPartsFor_19 : decode cX2_hasPartsFor 19 = .ok (.invokevirtual 61, 3) := by decide +kernel
theorem dX2_hasPartsFor_22 : decode cX2_hasPartsFor 22 = .ok (.astore 4, 2) := by decide +kernel
theorem dX2_hasPartsFor_24 : decode cX2_hasPartsFor 24 = .ok (.aload 4, 2) := by decide +kernel
theorem dX2_hasPartsFor_26 : decode cX2_hasPartsFor 26 = .ok (.ifnonnull 8, 3) := by decide +kernel
theorem dX2_hasPartsFor_29 : decode cX2_hasPartsFor 29 = .ok (.iconst 0, 1) := by decide +kernel
theorem dX2_hasPartsFor_30 : decode cX2_hasPartsFor 30 = .ok (.istore_n 2, 1) := by decide +kernel
theorem dX2_hasPartsFor_31 : decode cX2_hasPartsFor 31 = .ok (.goto 23, 3) := by decide +kernel
theorem dX2_hasPartsFor_34 : decode cX2_hasPartsFor 34 = .ok (.aload 4, 2) := by decide +kernel
theorem dX2_hasPartsFor_36 : decode cX2_hasPartsFor 36 = .ok (.dup, 1) := by decide +kernel
theorem dX2_hasPartsFor_37 : decode cX2_hasPartsFor 37 = .ok (.getfield 58, 3) := by decide +kernel
theorem dX2_hasPartsFor_40 : decode cX2_hasPartsFor 40 = .ok (.aload_n 0, 1) := by decide +kernel
theorem dX2_hasPartsFor_41 : decode cX2_hasPartsFor 41 = .ok (.getfield 11, 3) := by decide +kernel
theorem dX2_hasPartsFor_44 : decode cX2_hasPartsFor 44 = .ok (.iload_n 3, 1) := by decide +kernel
theorem dX2_hasPartsFor_45 : decode cX2_hasPartsFor 45 = .ok (.aaload, 1) := by decide +kernel
theorem dX2_hasPartsFor_46 : decode cX2_hasPartsFor 46 = .ok (.iload_n 1, 1) := by decide +kernel
theorem dX2_hasPartsFor_47 : decode cX2_hasPartsFor 47 = .ok (.invokevirtual 65, 3) := by decide +kernel
theorem dX2_hasPartsFor_50 : decode cX2_hasPartsFor 50 = .ok (.iadd, 1) := by decide +kernel
theorem dX2_hasPartsFor_51 : decode cX2_hasPartsFor 51 = .ok (.putfield 58, 3) := by decide +kernel
theorem dX2_hasPartsFor_54 : decode cX2_hasPartsFor 54 = .ok (.iinc 3 1, 3) := by decide +kernel
theorem dX2_hasPartsFor_57 : decode cX2_hasPartsFor 57 = .ok (.goto (-53), 3) := by decide +kernel
theorem dX2_hasPartsFor_60 : decode cX2_hasPartsFor 60 = .ok (.iconst 0, 1) := by decide +kernel
theorem dX2_hasPartsFor_61 : decode cX2_hasPartsFor 61 = .ok (.istore_n 3, 1) := by decide +kernel
theorem dX2_hasPartsFor_62 : decode cX2_hasPartsFor 62 = .ok (.iload_n 3, 1) := by decide +kernel
theorem dX2_hasPartsFor_63 : decode cX2_hasPartsFor 63 = .ok (.aload_n 0, 1) := by decide +kernel
theorem dX2_hasPartsFor_64 : decode cX2_hasPartsFor 64 = .ok (.getfield 37, 3) := by decide +kernel
theorem dX2_hasPartsFor_67 : decode cX2_hasPartsFor 67 = .ok (.if_icmp .ge 18, 3) := by decide +kernel
theorem dX2_hasPartsFor_70 : decode cX2_hasPartsFor 70 = .ok (.aload_n 0, 1) := by decide +kernel
theorem dX2_hasPartsFor_71 : decode cX2_hasPartsFor 71 = .ok (.getfield 11, 3) := by decide +kernel
theorem dX2_hasPartsFor_74 : decode cX2_hasPartsFor 74 = .ok (.iload_n 3, 1) := by decide +kernel
theorem dX2_hasPartsFor_75 : decode cX2_hasPartsFor 75 = .ok (.aaload, 1) := by decide +kernel
theorem dX2_hasPartsFor_76 : decode cX2_hasPartsFor 76 = .ok (.invokevirtual 69, 3) := by decide +kernel
theorem dX2_hasPartsFor_79 : decode cX2_hasPartsFor 79 = .ok (.iinc 3 1, 3) := by decide +kernel
theorem dX2_hasPartsFor_82 : decode cX2_hasPartsFor 82 = .ok (.goto (-20), 3) := by decide +kernel
theorem dX2_hasPartsFor_85 : decode cX2_hasPartsFor 85 = .ok (.iload_n 2, 1) := by decide +kernel
theorem dX2_hasPartsFor_86 : decode cX2_hasPartsFor 86 = .ok (.ireturn, 1) := by decide +kernel
theorem dX2_measureLead_0 : decode cX2_measureLead 0 = .ok (.aload_n 0, 1) := by decide +kernel
theorem dX2_measureLead_1 : decode cX2_measureLead 1 = .ok (.getfield 30, 3) := by decide +kernel
theorem dX2_measureLead_4 : decode cX2_measureLead 4 = .ok (.ifCond .eq 12, 3) := by decide +kernel
theorem dX2_measureLead_7 : decode cX2_measureLead 7 = .ok (.aload_n 0, 1) := by decide +kernel
theorem dX2_measureLead_8 : decode cX2_measureLead 8 = .ok (.aload_n 0, 1) := by decide +kernel
theorem dX2_measureLead_9 : decode cX2_measureLead 9 = .ok (.getfield 72, 3) := by decide +kernel
theorem dX2_measureLead_12 : decode cX2_measureLead 12 = .ok (.putfield 75, 3) := by decide +kernel
theorem dX2_measureLead_15 : decode cX2_measureLead 15 = .ok (.return_, 1) := by decide +kernel
theorem dX2_measureLead_16 : decode cX2_measureLead 16 = .ok (.iconst 0, 1) := by decide +kernel
theorem dX2_measureLead_17 : decode cX2_measureLead 17 = .ok (.istore_n 1, 1) := by decide +kernel
theorem dX2_measureLead_18 : decode cX2_measureLead 18 = .ok (.aload_n 0, 1) := by decide +kernel
theorem dX2_measureLead_19 : decode cX2_measureLead 19 = .ok (.getfield 47, 3) := by decide +kernel
theorem dX2_measureLead_22 : decode cX2_measureLead 22 = .ok (.ifCond .le 7, 3) := by decide +kernel
theorem dX2_measureLead_25 : decode cX2_measureLead 25 = .ok (.iconst 0, 1) := by decide +kernel
theorem dX2_measureLead_26 : decode cX2_measureLead 26 = .ok (.goto 4, 3) := by decide +kernel
theorem dX2_measureLead_29 : decode cX2_measureLead 29 = .ok (.iconst (-1), 1) := by decide +kernel
theorem dX2_measureLead_30 : decode cX2_measureLead 30 = .ok (.istore_n 2, 1) := by decide +kernel
theorem dX2_measureLead_31 : decode cX2_measureLead 31 = .ok (.iconst 0, 1) := by decide +kernel
theorem dX2_measureLead_32 : decode cX2_measureLead 32 = .ok (.istore_n 3, 1) := by decide +kernel
theorem dX2_measureLead_33 : decode cX2_measureLead 33 = .ok (.iload_n 3, 1) := by decide +kernel
theorem dX2_measureLead_34 : decode cX2_measureLead 34 = .ok (.aload_n 0, 1) := by decide +kernel
theorem dX2_measureLead_35 : decode cX2_measureLead 35 = .ok (.getfield 37, 3) := by decide +kernel
theorem dX2_measureLead_38 : decode cX2_measureLead 38 = .ok (.if_icmp .ge 44, 3) := by decide +kernel
theorem dX2_measureLead_41 : decode cX2_measureLead 41 = .ok (.aload_n 0, 1) := by decide +kernel
theorem dX2_measureLead_42 : decode cX2_measureLead 42 = .ok (.getfield 11, 3) := by decide +kernel
theorem dX2_measureLead_45 : decode cX2_measureLead 45 = .ok (.iload_n 3, 1) := by decide +kernel
theorem dX2_measureLead_46 : decode cX2_measureLead 46 = .ok (.aaload, 1) := by decide +kernel
theorem dX2_measureLead_47 : decode cX2_measureLead 47 = .ok (.getfield 78, 3) := by decide +kernel
theorem dX2_measureLead_50 : decode cX2_measureLead 50 = .ok (.getfield 75, 3) := by decide +kernel
theorem dX2_measureLead_53 : decode cX2_measureLead 53 = .ok (.iconst (-1), 1) := by decide +kernel
theorem dX2_measureLead_54 : decode cX2_measureLead 54 = .ok (.if_icmp .ne 5, 3) := by decide +kernel
theorem dX2_measureLead_57 : decode cX2_measureLead 57 = .ok (.iconst (-1), 1) := by decide +kernel
theorem dX2_measureLead_58 : decode cX2_measureLead 58 = .ok (.istore_n 2, 1) := by decide +kernel
theorem dX2_measureLead_59 : decode cX2_measureLead 59 = .ok (.iload_n 1, 1) := by decide +kernel
theorem dX2_measureLead_60 : decode cX2_measureLead 60 = .ok (.aload_n 0, 1) := by decide +kernel
theorem dX2_measureLead_61 : decode cX2_measureLead 61 = .ok (.getfield 11, 3) := by decide +kernel
theorem dX2_measureLead_64 : decode cX2_measureLead 64 = .ok (.iload_n 3, 1) := by decide +kernel
theorem dX2_measureLead_65 : decode cX2_measureLead 65 = .ok (.aaload, 1) := by decide +kernel
theorem dX2_measureLead_66 : decode cX2_measureLead 66 = .ok (.getfield 78, 3) := by decide +kernel
theorem dX2_measureLead_69 : decode cX2_measureLead 69 = .ok (.getfield 75, 3) := by decide +kernel
theorem dX2_measureLead_72 : decode cX2_measureLead 72 = .ok (.invokestatic 82, 3) := by decide +kernel
theorem dX2_measureLead_75 : decode cX2_measureLead 75 = .ok (.istore_n 1, 1) := by decide +kernel
theorem dX2_measureLead_76 : decode cX2_measureLead 76 = .ok (.iinc 3 1, 3) := by decide +kernel
theorem dX2_measureLead_79 : decode cX2_measureLead 79 = .ok (.goto (-46), 3) := by decide +kernel
theorem dX2_measureLead_82 : decode cX2_measureLead 82 = .ok (.iconst 0, 1) := by decide +kernel
theorem dX2_measureLead_83 : decode cX2_measureLead 83 = .ok (.istore_n 3, 1) := by decide +kernel
theorem dX2_measureLead_84 : decode cX2_measureLead 84 = .ok (.iload_n 3, 1) := by decide +kernel
theorem dX2_measureLead_85 : decode cX2_measureLead 85 = .ok (.aload_n 0, 1) := by decide +kernel
theorem dX2_measureLead_86 : decode cX2_measureLead 86 = .ok (.getfield 47, 3) := by decide +kernel
theorem dX2_measureLead_89 : decode cX2_measureLead 89 = .ok (.if_icmp .ge 26, 3) := by decide +kernel
theorem dX2_measureLead_92 : decode cX2_measureLead 92 = .ok (.iload_n 2, 1) := by decide +kernel
theorem dX2_measureLead_93 : decode cX2_measureLead 93 = .ok (.iconst (-1), 1) := by decide +kernel
theorem dX2_measureLead_94 : decode cX2_measureLead 94 = .ok (.if_icmp .eq 21, 3) := by decide +kernel
theorem dX2_measureLead_97 : decode cX2_measureLead 97 = .ok (.iload_n 2, 1) := by decide +kernel
theorem dX2_measureLead_98 : decode cX2_measureLead 98 = .ok (.aload_n 0, 1) := by decide +kernel
theorem dX2_measureLead_99 : decode cX2_measureLead 99 = .ok (.getfield 19, 3) := by decide +kernel
theorem dX2_measureLead_102 : decode cX2_measureLead 102 = .ok (.iload_n 3, 1) := by decide +kernel
theorem dX2_measureLead_103 : decode cX2_measureLead 103 = .ok (.aaload, 1) := by decide +kernel
theorem dX2_measureLead_104 : decode cX2_measureLead 104 = .ok (.getfield 88, 3) := by decide +kernel
theorem dX2_measureLead_107 : decode cX2_measureLead 107 = .ok (.iadd, 1) := by decide +kernel
theorem dX2_measureLead_108 : decode cX2_measureLead 108 = .ok (.istore_n 2, 1) := by decide +kernel
theorem dX2_measureLead_109 : decode cX2_measureLead 109 = .ok (.iinc 3 1, 3) := by decide +kernel
theorem dX2_measureLead_112 : decode cX2_measureLead 112 = .ok (.goto (-28), 3) := by decide +kernel
theorem dX2_measureLead_115 : decode cX2_measureLead 115 = .ok (.aload_n 0, 1) := by decide +kernel
theorem dX2_measureLead_116 : decode cX2_measureLead 116 = .ok (.iload_n 2, 1) := by decide +kernel
theorem dX2_measureLead_117 : decode cX2_measureLead 117 = .ok (.iconst (-1), 1) := by decide +kernel
theorem dX2_measureLead_118 : decode cX2_measureLead 118 = .ok (.if_icmp .ne 7, 3) := by decide +kernel
theorem dX2_measureLead_121 : decode cX2_measureLead 121 = .ok (.iconst (-1), 1) := by decide +kernel
theorem dX2_measureLead_122 : decode cX2_measureLead 122 = .ok (.goto 6, 3) := by decide +kernel
theorem dX2_measureLead_125 : decode cX2_measureLead 125 = .ok (.iload_n 2, 1) := by decide +kernel
theorem dX2_measureLead_126 : decode cX2_measureLead 126 = .ok (.iload_n 1, 1) := by decide +kernel
theorem dX2_measureLead_127 : decode cX2_measureLead 127 = .ok (.iadd, 1) := by decide +kernel
theorem dX2_measureLead_128 : decode cX2_measureLead 128 = .ok (.putfield 75, 3) := by decide +kernel
theorem dX2_measureLead_131 : decode cX2_measureLead 131 = .ok (.return_, 1) := by decide +kernel
theorem dX3_init_0 : decode cX3_init 0 = .ok (.aload_n 0, 1) := by decide +kernel
theorem dX3_init_1 : decode cX3_init 1 = .ok (.invokespecial 1, 3) := by decide +kernel
theorem dX3_init_4 : decode cX3_init 4 = .ok (.aload_n 0, 1) := by decide +kernel
theorem dX3_init_5 : decode cX3_init 5 = .ok (.aload_n 1, 1) := by decide +kernel
theorem dX3_init_6 : decode cX3_init 6 = .ok (.putfield 7, 3) := by decide +kernel
theorem dX3_init_9 : decode cX3_init 9 = .ok (.aload_n 0, 1) := by decide +kernel
theorem dX3_init_10 : decode cX3_init 10 = .ok (.iload_n 2, 1) := by decide +kernel
theorem dX3_init_11 : decode cX3_init 11 = .ok (.putfield 13, 3) := by decide +kernel
theorem dX3_init_14 : decode cX3_init 14 = .ok (.aload_n 0, 1) := by decide +kernel
theorem dX3_init_15 : decode cX3_init 15 = .ok (.aload_n 3, 1) := by decide +kernel
theorem dX3_init_16 : decode cX3_init 16 = .ok (.putfield 17, 3) := by decide +kernel
theorem dX3_init_19 : decode cX3_init 19 = .ok (.return_, 1) := by decide +kernel
theorem dX3_needFor_0 : decode cX3_needFor 0 = .ok (.aload_n 0, 1) := by decide +kernel
theorem dX3_needFor_1 : decode cX3_needFor 1 = .ok (.getfield 13, 3) := by decide +kernel
theorem dX3_needFor_4 : decode cX3_needFor 4 = .ok (.iload_n 1, 1) := by decide +kernel
theorem dX3_needFor_5 : decode cX3_needFor 5 = .ok (.imul, 1) := by decide +kernel
theorem dX3_needFor_6 : decode cX3_needFor 6 = .ok (.ireturn, 1) := by decide +kernel
theorem dX3_sourceFor_0 : decode cX3_sourceFor 0 = .ok (.aload_n 0, 1) := by decide +kernel
theorem dX3_sourceFor_1 : decode cX3_sourceFor 1 = .ok (.iload_n 1, 1) := by decide +kernel
theorem dX3_sourceFor_2 : decode cX3_sourceFor 2 = .ok (.invokevirtual 20, 3) := by decide +kernel
theorem dX3_sourceFor_5 : decode cX3_sourceFor 5 = .ok (.istore_n 2, 1) := by decide +kernel
theorem dX3_sourceFor_6 : decode cX3_sourceFor 6 = .ok (.aload_n 0, 1) := by decide +kernel
theorem dX3_sourceFor_7 : decode cX3_sourceFor 7 = .ok (.getfield 7, 3) := by decide +kernel
theorem dX3_sourceFor_10 : decode cX3_sourceFor 10 = .ok (.invokevirtual 24, 3) := by decide +kernel
theorem dX3_sourceFor_13 : decode cX3_sourceFor 13 = .ok (.iload_n 2, 1) := by decide +kernel
theorem dX3_sourceFor_14 : decode cX3_sourceFor 14 = .ok (.if_icmp .lt 8, 3) := by decide +kernel
theorem dX3_sourceFor_17 : decode cX3_sourceFor 17 = .ok (.aload_n 0, 1) := by decide +kernel
theorem dX3_sourceFor_18 : decode cX3_sourceFor 18 = .ok (.getfield 7, 3) := by decide +kernel
theorem dX3_sourceFor_21 : decode cX3_sourceFor 21 = .ok (.areturn, 1) := by decide +kernel
theorem dX3_sourceFor_22 : decode cX3_sourceFor 22 = .ok (.aload_n 0, 1) := by decide +kernel
theorem dX3_sourceFor_23 : decode cX3_sourceFor 23 = .ok (.getfield 17, 3) := by decide +kernel
theorem dX3_sourceFor_26 : decode cX3_sourceFor 26 = .ok (.ifnull 21, 3) := by decide +kernel
theorem dX3_sourceFor_29 : decode cX3_sourceFor 29 = .ok (.aload_n 0, 1) := by decide +kernel
theorem dX3_sourceFor_30 : decode cX3_sourceFor 30 = .ok (.getfield 17, 3) := by decide +kernel
theorem dX3_sourceFor_33 : decode cX3_sourceFor 33 = .ok (.invokevirtual 24, 3) := by decide +kernel
theorem dX3_sourceFor_36 : decode cX3_sourceFor 36 = .ok (.iload_n 2, 1) := by decide +kernel
theorem dX3_sourceFor_37 : decode cX3_sourceFor 37 = .ok (.if_icmp .lt 10, 3) := by decide +kernel
theorem dX3_sourceFor_40 : decode cX3_sourceFor 40 = .ok (.aload_n 0, 1) := by decide +kernel
theorem dX3_sourceFor_41 : decode cX3_sourceFor 41 = .ok (.getfield 17, 3) := by decide +kernel
theorem dX3_sourceFor_44 : decode cX3_sourceFor 44 = .ok (.goto 4, 3) := by decide +kernel
theorem dX3_sourceFor_47 : decode cX3_sourceFor 47 = .ok (.aconst_null, 1) := by decide +kernel
theorem dX3_sourceFor_48 : decode cX3_sourceFor 48 = .ok (.areturn, 1) := by decide +kernel
theorem dX3_forgetAsked_0 : decode cX3_forgetAsked 0 = .ok (.aload_n 0, 1) := by decide +kernel
theorem dX3_forgetAsked_1 : decode cX3_forgetAsked 1 = .ok (.getfield 7, 3) := by decide +kernel
theorem dX3_forgetAsked_4 : decode cX3_forgetAsked 4 = .ok (.iconst 0, 1) := by decide +kernel
theorem dX3_forgetAsked_5 : decode cX3_forgetAsked 5 = .ok (.putfield 30, 3) := by decide +kernel
theorem dX3_forgetAsked_8 : decode cX3_forgetAsked 8 = .ok (.aload_n 0, 1) := by decide +kernel
theorem dX3_forgetAsked_9 : decode cX3_forgetAsked 9 = .ok (.getfield 17, 3) := by decide +kernel
theorem dX3_forgetAsked_12 : decode cX3_forgetAsked 12 = .ok (.ifnull 11, 3) := by decide +kernel
theorem dX3_forgetAsked_15 : decode cX3_forgetAsked 15 = .ok (.aload_n 0, 1) := by decide +kernel
theorem dX3_forgetAsked_16 : decode cX3_forgetAsked 16 = .ok (.getfield 17, 3) := by decide +kernel
theorem dX3_forgetAsked_19 : decode cX3_forgetAsked 19 = .ok (.iconst 0, 1) := by decide +kernel
theorem dX3_forgetAsked_20 : decode cX3_forgetAsked 20 = .ok (.putfield 30, 3) := by decide +kernel
theorem dX3_forgetAsked_23 : decode cX3_forgetAsked 23 = .ok (.return_, 1) := by decide +kernel
theorem dX4_init_0 : decode cX4_init 0 = .ok (.aload_n 0, 1) := by decide +kernel
theorem dX4_init_1 : decode cX4_init 1 = .ok (.invokespecial 3, 3) := by decide +kernel
theorem dX4_init_4 : decode cX4_init 4 = .ok (.aload_n 0, 1) := by decide +kernel
theorem dX4_init_5 : decode cX4_init 5 = .ok (.iconst 0, 1) := by decide +kernel
theorem dX4_init_6 : decode cX4_init 6 = .ok (.putfield 9, 3) := by decide +kernel
theorem dX4_init_9 : decode cX4_init 9 = .ok (.aload_n 0, 1) := by decide +kernel
theorem dX4_init_10 : decode cX4_init 10 = .ok (.iload_n 1, 1) := by decide +kernel
theorem dX4_init_11 : decode cX4_init 11 = .ok (.putfield 15, 3) := by decide +kernel
theorem dX4_init_14 : decode cX4_init 14 = .ok (.aload_n 0, 1) := by decide +kernel
theorem dX4_init_15 : decode cX4_init 15 = .ok (.iload_n 2, 1) := by decide +kernel
theorem dX4_init_16 : decode cX4_init 16 = .ok (.putfield 18, 3) := by decide +kernel
theorem dX4_init_19 : decode cX4_init 19 = .ok (.aload_n 0, 1) := by decide +kernel
theorem dX4_init_20 : decode cX4_init 20 = .ok (.iload_n 3, 1) := by decide +kernel
theorem dX4_init_21 : decode cX4_init 21 = .ok (.putfield 21, 3) := by decide +kernel
theorem dX4_init_24 : decode cX4_init 24 = .ok (.aload_n 0, 1) := by decide +kernel
theorem dX4_init_25 : decode cX4_init 25 = .ok (.iload 4, 2) := by decide +kernel
theorem dX4_init_27 : decode cX4_init 27 = .ok (.putfield 24, 3) := by decide +kernel
theorem dX4_init_30 : decode cX4_init 30 = .ok (.aload_n 0, 1) := by decide +kernel
theorem dX4_init_31 : decode cX4_init 31 = .ok (.iload 5, 2) := by decide +kernel
theorem dX4_init_33 : decode cX4_init 33 = .ok (.putfield 27, 3) := by decide +kernel
theorem dX4_init_36 : decode cX4_init 36 = .ok (.aload_n 0, 1) := by decide +kernel
theorem dX4_init_37 : decode cX4_init 37 = .ok (.iload 6, 2) := by decide +kernel
theorem dX4_init_39 : decode cX4_init 39 = .ok (.putfield 30, 3) := by decide +kernel
theorem dX4_init_42 : decode cX4_init 42 = .ok (.aload_n 0, 1) := by decide +kernel
theorem dX4_init_43 : decode cX4_init 43 = .ok (.aload 7, 2) := by decide +kernel
theorem dX4_init_45 : decode cX4_init 45 = .ok (.putfield 33, 3) := by decide +kernel
theorem dX4_init_48 : decode cX4_init 48 = .ok (.return_, 1) := by decide +kernel
theorem dX4_canDo_0 : decode cX4_canDo 0 = .ok (.aload_n 0, 1) := by decide +kernel
theorem dX4_canDo_1 : decode cX4_canDo 1 = .ok (.getfield 18, 3) := by decide +kernel
theorem dX4_canDo_4 : decode cX4_canDo 4 = .ok (.aload_n 1, 1) := by decide +kernel
theorem dX4_canDo_5 : decode cX4_canDo 5 = .ok (.getfield 37, 3) := by decide +kernel
theorem dX4_canDo_8 : decode cX4_canDo 8 = .ok (.ishr, 1) := by decide +kernel
theorem dX4_canDo_9 : decode cX4_canDo 9 = .ok (.iconst 1, 1) := by decide +kernel
theorem dX4_canDo_10 : decode cX4_canDo 10 = .ok (.iand, 1) := by decide +kernel
theorem dX4_canDo_11 : decode cX4_canDo 11 = .ok (.ifCond .eq 7, 3) := by decide +kernel
theorem dX4_canDo_14 : decode cX4_canDo 14 = .ok (.iconst 1, 1) := by decide +kernel
theorem dX4_canDo_15 : decode cX4_canDo 15 = .ok (.goto 4, 3) := by decide +kernel
theorem dX4_canDo_18 : decode cX4_canDo 18 = .ok (.iconst 0, 1) := by decide +kernel
theorem dX4_canDo_19 : decode cX4_canDo 19 = .ok (.ireturn, 1) := by decide +kernel
theorem dX4_isReady_0 : decode cX4_isReady 0 = .ok (.aload_n 0, 1) := by decide +kernel
theorem dX4_isReady_1 : decode cX4_isReady 1 = .ok (.getfield 42, 3) := by decide +kernel
theorem dX4_isReady_4 : decode cX4_isReady 4 = .ok (.ifnonnull 14, 3) := by decide +kernel
theorem dX4_isReady_7 : decode cX4_isReady 7 = .ok (.aload_n 0, 1) := by decide +kernel
theorem dX4_isReady_8 : decode cX4_isReady 8 = .ok (.getfield 9, 3) := by decide +kernel
theorem dX4_isReady_11 : decode cX4_isReady 11 = .ok (.ifCond .ne 7, 3) := by decide +kernel
theorem dX4_isReady_14 : decode cX4_isReady 14 = .ok (.iconst 1, 1) := by decide +kernel
theorem dX4_isReady_15 : decode cX4_isReady 15 = .ok (.goto 4, 3) := by decide +kernel
theorem dX4_isReady_18 : decode cX4_isReady 18 = .ok (.iconst 0, 1) := by decide +kernel
theorem dX4_isReady_19 : decode cX4_isReady 19 = .ok (.ireturn, 1) := by decide +kernel
theorem dX4_begin_0 : decode cX4_begin 0 = .ok (.aload_n 0, 1) := by decide +kernel
theorem dX4_begin_1 : decode cX4_begin 1 = .ok (.iconst 1, 1) := by decide +kernel
theorem dX4_begin_2 : decode cX4_begin 2 = .ok (.aload_n 2, 1) := by decide +kernel
theorem dX4_begin_3 : decode cX4_begin 3 = .ok (.getfield 46, 3) := by decide +kernel
theorem dX4_begin_6 : decode cX4_begin 6 = .ok (.aload_n 3, 1) := by decide +kernel
theorem dX4_begin_7 : decode cX4_begin 7 = .ok (.getfield 49, 3) := by decide +kernel
theorem dX4_begin_10 : decode cX4_begin 10 = .ok (.aload_n 2, 1) := by decide +kernel
theorem dX4_begin_11 : decode cX4_begin 11 = .ok (.getfield 55, 3) := by decide +kernel
theorem dX4_begin_14 : decode cX4_begin 14 = .ok (.iaload, 1) := by decide +kernel
theorem dX4_begin_15 : decode cX4_begin 15 = .ok (.isub, 1) := by decide +kernel
theorem dX4_begin_16 : decode cX4_begin 16 = .ok (.iconst 1, 1) := by decide +kernel
theorem dX4_begin_17 : decode cX4_begin 17 = .ok (.iadd, 1) := by decide +kernel
theorem dX4_begin_18 : decode cX4_begin 18 = .ok (.invokestatic 58, 3) := by decide +kernel
theorem dX4_begin_21 : decode cX4_begin 21 = .ok (.putfield 64, 3) := by decide +kernel
theorem dX4_begin_24 : decode cX4_begin 24 = .ok (.aload_n 0, 1) := by decide +kernel
theorem dX4_begin_25 : decode cX4_begin 25 = .ok (.getfield 67, 3) := by decide +kernel
theorem dX4_begin_28 : decode cX4_begin 28 = .ok (.aload_n 1, 1) := by decide +kernel
theorem dX4_begin_29 : decode cX4_begin 29 = .ok (.getfield 70, 3) := by decide +kernel
theorem dX4_begin_32 : decode cX4_begin 32 = .ok (.if_acmp .eq 16, 3) := by decide +kernel
theorem dX4_begin_35 : decode cX4_begin 35 = .ok (.aload_n 0, 1) := by decide +kernel
theorem dX4_begin_36 : decode cX4_begin 36 = .ok (.dup, 1) := by decide +kernel
theorem dX4_begin_37 : decode cX4_begin 37 = .ok (.getfield 64, 3) := by decide +kernel
theorem dX4_begin_40 : decode cX4_begin 40 = .ok (.aload_n 0, 1) := by decide +kernel
theorem dX4_begin_41 : decode cX4_begin 41 = .ok (.getfield 21, 3) := by decide +kernel
theorem dX4_begin_44 : decode cX4_begin 44 = .ok (.iadd, 1) := by decide +kernel
theorem dX4_begin_45 : decode cX4_begin 45 = .ok (.putfield 64, 3) := by decide +kernel
theorem dX4_begin_48 : decode cX4_begin 48 = .ok (.aload_n 0, 1) := by decide +kernel
theorem dX4_begin_49 : decode cX4_begin 49 = .ok (.iconst 0, 1) := by decide +kernel
theorem dX4_begin_50 : decode cX4_begin 50 = .ok (.putfield 75, 3) := by decide +kernel
theorem dX4_begin_53 : decode cX4_begin 53 = .ok (.aload_n 0, 1) := by decide +kernel
theorem dX4_begin_54 : decode cX4_begin 54 = .ok (.aload_n 1, 1) := by decide +kernel
theorem dX4_begin_55 : decode cX4_begin 55 = .ok (.getfield 70, 3) := by decide +kernel
theorem dX4_begin_58 : decode cX4_begin 58 = .ok (.putfield 67, 3) := by decide +kernel
theorem dX4_begin_61 : decode cX4_begin 61 = .ok (.aload_n 0, 1) := by decide +kernel
theorem dX4_begin_62 : decode cX4_begin 62 = .ok (.aload_n 1, 1) := by decide +kernel
theorem dX4_begin_63 : decode cX4_begin 63 = .ok (.putfield 42, 3) := by decide +kernel
theorem dX4_begin_66 : decode cX4_begin 66 = .ok (.aload_n 0, 1) := by decide +kernel
theorem dX4_begin_67 : decode cX4_begin 67 = .ok (.getfield 42, 3) := by decide +kernel
theorem dX4_begin_70 : decode cX4_begin 70 = .ok (.iconst 2, 1) := by decide +kernel
theorem dX4_begin_71 : decode cX4_begin 71 = .ok (.putfield 79, 3) := by decide +kernel
theorem dX4_begin_74 : decode cX4_begin 74 = .ok (.aload_n 0, 1) := by decide +kernel
theorem dX4_begin_75 : decode cX4_begin 75 = .ok (.aload_n 3, 1) := by decide +kernel
theorem dX4_begin_76 : decode cX4_begin 76 = .ok (.putfield 82, 3) := by decide +kernel
theorem dX4_begin_79 : decode cX4_begin 79 = .ok (.aload_n 0, 1) := by decide +kernel
theorem dX4_begin_80 : decode cX4_begin 80 = .ok (.getfield 82, 3) := by decide +kernel
theorem dX4_begin_83 : decode cX4_begin 83 = .ok (.aload_n 0, 1) := by decide +kernel
theorem dX4_begin_84 : decode cX4_begin 84 = .ok (.getfield 15, 3) := by decide +kernel
theorem dX4_begin_87 : decode cX4_begin 87 = .ok (.putfield 86, 3) := by decide +kernel
theorem dX4_begin_90 : decode cX4_begin 90 = .ok (.return_, 1) := by decide +kernel
theorem dX4_letGo_0 : decode cX4_letGo 0 = .ok (.aload_n 0, 1) := by decide +kernel
theorem dX4_letGo_1 : decode cX4_letGo 1 = .ok (.getfield 82, 3) := by decide +kernel
theorem dX4_letGo_4 : decode cX4_letGo 4 = .ok (.ifnull 11, 3) := by decide +kernel
theorem dX4_letGo_7 : decode cX4_letGo 7 = .ok (.aload_n 0, 1) := by decide +kernel
theorem dX4_letGo_8 : decode cX4_letGo 8 = .ok (.getfield 82, 3) := by decide +kernel
theorem dX4_letGo_11 : decode cX4_letGo 11 = .ok (.iconst (-1), 1) := by decide +kernel
theorem dX4_letGo_12 : decode cX4_letGo 12 = .ok (.putfield 86, 3) := by decide +kernel
theorem dX4_letGo_15 : decode cX4_letGo 15 = .ok (.aload_n 0, 1) := by decide +kernel
theorem dX4_letGo_16 : decode cX4_letGo 16 = .ok (.aconst_null, 1) := by decide +kernel
theorem dX4_letGo_17 : decode cX4_letGo 17 = .ok (.putfield 42, 3) := by decide +kernel
theorem dX4_letGo_20 : decode cX4_letGo 20 = .ok (.aload_n 0, 1) := by decide +kernel
theorem dX4_letGo_21 : decode cX4_letGo 21 = .ok (.aconst_null, 1) := by decide +kernel
theorem dX4_letGo_22 : decode cX4_letGo 22 = .ok (.putfield 82, 3) := by decide +kernel
theorem dX4_letGo_25 : decode cX4_letGo 25 = .ok (.aload_n 0, 1) := by decide +kernel
theorem dX4_letGo_26 : decode cX4_letGo 26 = .ok (.iconst 0, 1) := by decide +kernel
theorem dX4_letGo_27 : decode cX4_letGo 27 = .ok (.putfield 64, 3) := by decide +kernel
theorem dX4_letGo_30 : decode cX4_letGo 30 = .ok (.aload_n 0, 1) := by decide +kernel
theorem dX4_letGo_31 : decode cX4_letGo 31 = .ok (.getfield 89, 3) := by decide +kernel
theorem dX4_letGo_34 : decode cX4_letGo 34 = .ok (.aload_n 0, 1) := by decide +kernel
theorem dX4_letGo_35 : decode cX4_letGo 35 = .ok (.getfield 27, 3) := by decide +kernel
theorem dX4_letGo_38 : decode cX4_letGo 38 = .ok (.if_icmp .lt 8, 3) := by decide +kernel
theorem dX4_letGo_41 : decode cX4_letGo 41 = .ok (.aload_n 0, 1) := by decide +kernel
theorem dX4_letGo_42 : decode cX4_letGo 42 = .ok (.iconst 1, 1) := by decide +kernel
theorem dX4_letGo_43 : decode cX4_letGo 43 = .ok (.putfield 9, 3) := by decide +kernel
theorem dX4_letGo_46 : decode cX4_letGo 46 = .ok (.return_, 1) := by decide +kernel
theorem dX4_drawsFault_0 : decode cX4_drawsFault 0 = .ok (.aload_n 0, 1) := by decide +kernel
theorem dX4_drawsFault_1 : decode cX4_drawsFault 1 = .ok (.getfield 42, 3) := by decide +kernel
theorem dX4_drawsFault_4 : decode cX4_drawsFault 4 = .ok (.ifnull 10, 3) := by decide +kernel
theorem dX4_drawsFault_7 : decode cX4_drawsFault 7 = .ok (.aload_n 0, 1) := by decide +kernel
theorem dX4_drawsFault_8 : decode cX4_drawsFault 8 = .ok (.getfield 27, 3) := by decide +kernel
theorem dX4_drawsFault_11 : decode cX4_drawsFault 11 = .ok (.ifCond .gt 5, 3) := by decide +kernel
theorem dX4_drawsFault_14 : decode cX4_drawsFault 14 = .ok (.iconst 0, 1) := by decide +kernel
theorem dX4_drawsFault_15 : decode cX4_drawsFault 15 = .ok (.ireturn, 1) := by decide +kernel
theorem dX4_drawsFault_16 : decode cX4_drawsFault 16 = .ok (.bipush 7, 2) := by decide +kernel
theorem dX4_drawsFault_18 : decode cX4_drawsFault 18 = .ok (.aload_n 0, 1) := by decide +kernel
theorem dX4_drawsFault_19 : decode cX4_drawsFault 19 = .ok (.getfield 42, 3) := by decide +kernel
theorem dX4_drawsFault_22 : decode cX4_drawsFault 22 = .ok (.getfield 92, 3) := by decide +kernel
theorem dX4_drawsFault_25 : decode cX4_drawsFault 25 = .ok (.imul, 1) := by decide +kernel
theorem dX4_drawsFault_26 : decode cX4_drawsFault 26 = .ok (.iconst 5, 1) := by decide +kernel
theorem dX4_drawsFault_27 : decode cX4_drawsFault 27 = .ok (.aload_n 0, 1) := by decide +kernel
theorem dX4_drawsFault_28 : decode cX4_drawsFault 28 = .ok (.getfield 42, 3) := by decide +kernel
theorem dX4_drawsFault_31 : decode cX4_drawsFault 31 = .ok (.getfield 93, 3) := by decide +kernel
theorem dX4_drawsFault_34 : decode cX4_drawsFault 34 = .ok (.imul, 1) := by decide +kernel
theorem dX4_drawsFault_35 : decode cX4_drawsFault 35 = .ok (.iadd, 1) := by decide +kernel
theorem dX4_drawsFault_36 : decode cX4_drawsFault 36 = .ok (.iconst 3, 1) := by decide +kernel
theorem dX4_drawsFault_37 : decode cX4_drawsFault 37 = .ok (.iload_n 1, 1) := by decide +kernel
theorem dX4_drawsFault_38 : decode cX4_drawsFault 38 = .ok (.imul, 1) := by decide +kernel
theorem dX4_drawsFault_39 : decode cX4_drawsFault 39 = .ok (.iadd, 1) := by decide +kernel
theorem dX4_drawsFault_40 : decode cX4_drawsFault 40 = .ok (.bipush 11, 2) := by decide +kernel
theorem dX4_drawsFault_42 : decode cX4_drawsFault 42 = .ok (.irem, 1) := by decide +kernel
theorem dX4_drawsFault_43 : decode cX4_drawsFault 43 = .ok (.istore_n 2, 1) := by decide +kernel
theorem dX4_drawsFault_44 : decode cX4_drawsFault 44 = .ok (.iload_n 2, 1) := by decide +kernel
theorem dX4_drawsFault_45 : decode cX4_drawsFault 45 = .ok (.iconst 4, 1) := by decide +kernel
theorem dX4_drawsFault_46 : decode cX4_drawsFault 46 = .ok (.aload_n 0, 1) := by decide +kernel
theorem dX4_drawsFault_47 : decode cX4_drawsFault 47 = .ok (.getfield 89, 3) := by decide +kernel
theorem dX4_drawsFault_50 : decode cX4_drawsFault 50 = .ok (.imul, 1) := by decide +kernel
theorem dX4_drawsFault_51 : decode cX4_drawsFault 51 = .ok (.aload_n 0, 1) := by decide +kernel
theorem dX4_drawsFault_52 : decode cX4_drawsFault 52 = .ok (.getfield 27, 3) := by decide +kernel
theorem dX4_drawsFault_55 : decode cX4_drawsFault 55 = .ok (.idiv, 1) := by decide +kernel
theorem dX4_drawsFault_56 : decode cX4_drawsFault 56 = .ok (.if_icmp .ge 7, 3) := by decide +kernel
theorem dX4_drawsFault_59 : decode cX4_drawsFault 59 = .ok (.iconst 1, 1) := by decide +kernel
theorem dX4_drawsFault_60 : decode cX4_drawsFault 60 = .ok (.goto 4, 3) := by decide +kernel
theorem dX4_drawsFault_63 : decode cX4_drawsFault 63 = .ok (.iconst 0, 1) := by decide +kernel
theorem dX4_drawsFault_64 : decode cX4_drawsFault 64 = .ok (.ireturn, 1) := by decide +kernel
theorem dX4_beginRepair_0 : decode cX4_beginRepair 0 = .ok (.aload_n 0, 1) := by decide +kernel
theorem dX4_beginRepair_1 : decode cX4_beginRepair 1 = .ok (.iconst 2, 1) := by decide +kernel
theorem dX4_beginRepair_2 : decode cX4_beginRepair 2 = .ok (.putfield 9, 3) := by decide +kernel
theorem dX4_beginRepair_5 : decode cX4_beginRepair 5 = .ok (.aload_n 0, 1) := by decide +kernel
theorem dX4_beginRepair_6 : decode cX4_beginRepair 6 = .ok (.aload_n 0, 1) := by decide +kernel
theorem dX4_beginRepair_7 : decode cX4_beginRepair 7 = .ok (.getfield 30, 3) := by decide +kernel
theorem dX4_beginRepair_10 : decode cX4_beginRepair 10 = .ok (.putfield 96, 3) := by decide +kernel
theorem dX4_beginRepair_13 : decode cX4_beginRepair 13 = .ok (.return_, 1) := by decide +kernel
theorem dX4_repairHour_0 : decode cX4_repairHour 0 = .ok (.aload_n 0, 1) := by decide +kernel
theorem dX4_repairHour_1 : decode cX4_repairHour 1 = .ok (.dup, 1) := by decide +kernel
theorem dX4_repairHour_2 : decode cX4_repairHour 2 = .ok (.getfield 96, 3) := by decide +kernel
theorem dX4_repairHour_5 : decode cX4_repairHour 5 = .ok (.iconst 1, 1) := by decide +kernel
theorem dX4_repairHour_6 : decode cX4_repairHour 6 = .ok (.isub, 1) := by decide +kernel
theorem dX4_repairHour_7 : decode cX4_repairHour 7 = .ok (.putfield 96, 3) := by decide +kernel
theorem dX4_repairHour_10 : decode cX4_repairHour 10 = .ok (.aload_n 0, 1) := by decide +kernel
theorem dX4_repairHour_11 : decode cX4_repairHour 11 = .ok (.getfield 96, 3) := by decide +kernel
theorem dX4_repairHour_14 : decode cX4_repairHour 14 = .ok (.ifCond .gt 13, 3) := by decide +kernel
theorem dX4_repairHour_17 : decode cX4_repairHour 17 = .ok (.aload_n 0, 1) := by decide +kernel
theorem dX4_repairHour_18 : decode cX4_repairHour 18 = .ok (.iconst 0, 1) := by decide +kernel
theorem dX4_repairHour_19 : decode cX4_repairHour 19 = .ok (.putfield 89, 3) := by decide +kernel
theorem dX4_repairHour_22 : decode cX4_repairHour 22 = .ok (.aload_n 0, 1) := by decide +kernel
theorem dX4_repairHour_23 : decode cX4_repairHour 23 = .ok (.iconst 0, 1) := by decide +kernel
theorem dX4_repairHour_24 : decode cX4_repairHour 24 = .ok (.putfield 9, 3) := by decide +kernel
theorem dX4_repairHour_27 : decode cX4_repairHour 27 = .ok (.return_, 1) := by decide +kernel
theorem dX4_tell_0 : decode cX4_tell 0 = .ok (.iload_n 1, 1) := by decide +kernel
theorem dX4_tell_1 : decode cX4_tell 1 = .ok (.tableswitch 102 0 4 #[35, 54, 59, 78, 83], 35) := by decide +kernel
theorem dX4_tell_36 : decode cX4_tell 36 = .ok (.aload_n 0, 1) := by decide +kernel
theorem dX4_tell_37 : decode cX4_tell 37 = .ok (.getfield 42, 3) := by decide +kernel
theorem dX4_tell_40 : decode cX4_tell 40 = .ok (.ifnonnull 7, 3) := by decide +kernel
theorem dX4_tell_43 : decode cX4_tell 43 = .ok (.iconst (-1), 1) := by decide +kernel
theorem dX4_tell_44 : decode cX4_tell 44 = .ok (.goto 10, 3) := by decide +kernel
theorem dX4_tell_47 : decode cX4_tell 47 = .ok (.aload_n 0, 1) := by decide +kernel
theorem dX4_tell_48 : decode cX4_tell 48 = .ok (.getfield 42, 3) := by decide +kernel
theorem dX4_tell_51 : decode cX4_tell 51 = .ok (.getfield 92, 3) := by decide +kernel
theorem dX4_tell_54 : decode cX4_tell 54 = .ok (.ireturn, 1) := by decide +kernel
theorem dX4_tell_55 : decode cX4_tell 55 = .ok (.aload_n 0, 1) := by decide +kernel
theorem dX4_tell_56 : decode cX4_tell 56 = .ok (.getfield 64, 3) := by decide +kernel
theorem dX4_tell_59 : decode cX4_tell 59 = .ok (.ireturn, 1) := by decide +kernel
theorem dX4_tell_60 : decode cX4_tell 60 = .ok (.aload_n 0, 1) := by decide +kernel
theorem dX4_tell_61 : decode cX4_tell 61 = .ok (.getfield 82, 3) := by decide +kernel
theorem dX4_tell_64 : decode cX4_tell 64 = .ok (.ifnonnull 7, 3) := by decide +kernel
theorem dX4_tell_67 : decode cX4_tell 67 = .ok (.iconst (-1), 1) := by decide +kernel
theorem dX4_tell_68 : decode cX4_tell 68 = .ok (.goto 10, 3) := by decide +kernel
theorem dX4_tell_71 : decode cX4_tell 71 = .ok (.aload_n 0, 1) := by decide +kernel
theorem dX4_tell_72 : decode cX4_tell 72 = .ok (.getfield 82, 3) := by decide +kernel
theorem dX4_tell_75 : decode cX4_tell 75 = .ok (.getfield 99, 3) := by decide +kernel
theorem dX4_tell_78 : decode cX4_tell 78 = .ok (.ireturn, 1) := by decide +kernel
theorem dX4_tell_79 : decode cX4_tell 79 = .ok (.aload_n 0, 1) := by decide +kernel
theorem dX4_tell_80 : decode cX4_tell 80 = .ok (.getfield 89, 3) := by decide +kernel
theorem dX4_tell_83 : decode cX4_tell 83 = .ok (.ireturn, 1) := by decide +kernel
theorem dX4_tell_84 : decode cX4_tell 84 = .ok (.aload_n 0, 1) := by decide +kernel
theorem dX4_tell_85 : decode cX4_tell 85 = .ok (.getfield 67, 3) := by decide +kernel
theorem dX4_tell_88 : decode cX4_tell 88 = .ok (.ifnonnull 7, 3) := by decide +kernel
theorem dX4_tell_91 : decode cX4_tell 91 = .ok (.iconst (-1), 1) := by decide +kernel
theorem dX4_tell_92 : decode cX4_tell 92 = .ok (.goto 10, 3) := by decide +kernel
theorem dX4_tell_95 : decode cX4_tell 95 = .ok (.aload_n 0, 1) := by decide +kernel
theorem dX4_tell_96 : decode cX4_tell 96 = .ok (.getfield 67, 3) := by decide +kernel
theorem dX4_tell_99 : decode cX4_tell 99 = .ok (.getfield 100, 3) := by decide +kernel
theorem dX4_tell_102 : decode cX4_tell 102 = .ok (.ireturn, 1) := by decide +kernel
theorem dX4_tell_103 : decode cX4_tell 103 = .ok (.aload_n 0, 1) := by decide +kernel
theorem dX4_tell_104 : decode cX4_tell 104 = .ok (.getfield 9, 3) := by decide +kernel
theorem dX4_tell_107 : decode cX4_tell 107 = .ok (.ireturn, 1) := by decide +kernel
theorem dX5_init_0 : decode cX5_init 0 = .ok (.aload_n 0, 1) := by decide +kernel
theorem dX5_init_1 : decode cX5_init 1 = .ok (.invokespecial 1, 3) := by decide +kernel
theorem dX5_init_4 : decode cX5_init 4 = .ok (.aload_n 0, 1) := by decide +kernel
theorem dX5_init_5 : decode cX5_init 5 = .ok (.iload_n 1, 1) := by decide +kernel
theorem dX5_init_6 : decode cX5_init 6 = .ok (.putfield 7, 3) := by decide +kernel
theorem dX5_init_9 : decode cX5_init 9 = .ok (.aload_n 0, 1) := by decide +kernel
theorem dX5_init_10 : decode cX5_init 10 = .ok (.iload_n 2, 1) := by decide +kernel
theorem dX5_init_11 : decode cX5_init 11 = .ok (.putfield 13, 3) := by decide +kernel
theorem dX5_init_14 : decode cX5_init 14 = .ok (.aload_n 0, 1) := by decide +kernel
theorem dX5_init_15 : decode cX5_init 15 = .ok (.iload_n 3, 1) := by decide +kernel
theorem dX5_init_16 : decode cX5_init 16 = .ok (.putfield 16, 3) := by decide +kernel
theorem dX5_init_19 : decode cX5_init 19 = .ok (.return_, 1) := by decide +kernel
theorem dX6_init_0 : decode cX6_init 0 = .ok (.aload_n 0, 1) := by decide +kernel
theorem dX6_init_1 : decode cX6_init 1 = .ok (.invokespecial 3, 3) := by decide +kernel
theorem dX6_init_4 : decode cX6_init 4 = .ok (.aload_n 0, 1) := by decide +kernel
theorem dX6_init_5 : decode cX6_init 5 = .ok (.aload_n 1, 1) := by decide +kernel
theorem dX6_init_6 : decode cX6_init 6 = .ok (.putfield 9, 3) := by decide +kernel
theorem dX6_init_9 : decode cX6_init 9 = .ok (.aload_n 0, 1) := by decide +kernel
theorem dX6_init_10 : decode cX6_init 10 = .ok (.iload_n 2, 1) := by decide +kernel
theorem dX6_init_11 : decode cX6_init 11 = .ok (.putfield 15, 3) := by decide +kernel
theorem dX6_init_14 : decode cX6_init 14 = .ok (.aload_n 0, 1) := by decide +kernel
theorem dX6_init_15 : decode cX6_init 15 = .ok (.iload_n 3, 1) := by decide +kernel
theorem dX6_init_16 : decode cX6_init 16 = .ok (.putfield 19, 3) := by decide +kernel
theorem dX6_init_19 : decode cX6_init 19 = .ok (.return_, 1) := by decide +kernel
theorem dX6_tell_0 : decode cX6_tell 0 = .ok (.iload_n 1, 1) := by decide +kernel
theorem dX6_tell_1 : decode cX6_tell 1 = .ok (.tableswitch 77 0 4 #[35, 43, 48, 53, 58], 35) := by decide +kernel
theorem dX6_tell_36 : decode cX6_tell 36 = .ok (.aload_n 0, 1) := by decide +kernel
theorem dX6_tell_37 : decode cX6_tell 37 = .ok (.getfield 9, 3) := by decide +kernel
theorem dX6_tell_40 : decode cX6_tell 40 = .ok (.getfield 22, 3) := by decide +kernel
theorem dX6_tell_43 : decode cX6_tell 43 = .ok (.ireturn, 1) := by decide +kernel
theorem dX6_tell_44 : decode cX6_tell 44 = .ok (.aload_n 0, 1) := by decide +kernel
theorem dX6_tell_45 : decode cX6_tell 45 = .ok (.getfield 15, 3) := by decide +kernel
theorem dX6_tell_48 : decode cX6_tell 48 = .ok (.ireturn, 1) := by decide +kernel
theorem dX6_tell_49 : decode cX6_tell 49 = .ok (.aload_n 0, 1) := by decide +kernel
theorem dX6_tell_50 : decode cX6_tell 50 = .ok (.getfield 19, 3) := by decide +kernel
theorem dX6_tell_53 : decode cX6_tell 53 = .ok (.ireturn, 1) := by decide +kernel
theorem dX6_tell_54 : decode cX6_tell 54 = .ok (.aload_n 0, 1) := by decide +kernel
theorem dX6_tell_55 : decode cX6_tell 55 = .ok (.getfield 27, 3) := by decide +kernel
theorem dX6_tell_58 : decode cX6_tell 58 = .ok (.ireturn, 1) := by decide +kernel
theorem dX6_tell_59 : decode cX6_tell 59 = .ok (.aload_n 0, 1) := by decide +kernel
theorem dX6_tell_60 : decode cX6_tell 60 = .ok (.getfield 30, 3) := by decide +kernel
theorem dX6_tell_63 : decode cX6_tell 63 = .ok (.ifnonnull 7, 3) := by decide +kernel
theorem dX6_tell_66 : decode cX6_tell 66 = .ok (.iconst (-1), 1) := by decide +kernel
theorem dX6_tell_67 : decode cX6_tell 67 = .ok (.goto 10, 3) := by decide +kernel
theorem dX6_tell_70 : decode cX6_tell 70 = .ok (.aload_n 0, 1) := by decide +kernel
theorem dX6_tell_71 : decode cX6_tell 71 = .ok (.getfield 30, 3) := by decide +kernel
theorem dX6_tell_74 : decode cX6_tell 74 = .ok (.getfield 34, 3) := by decide +kernel
theorem dX6_tell_77 : decode cX6_tell 77 = .ok (.ireturn, 1) := by decide +kernel
theorem dX6_tell_78 : decode cX6_tell 78 = .ok (.iconst 0, 1) := by decide +kernel
theorem dX6_tell_79 : decode cX6_tell 79 = .ok (.aload_n 0, 1) := by decide +kernel
theorem dX6_tell_80 : decode cX6_tell 80 = .ok (.getfield 30, 3) := by decide +kernel
theorem dX6_tell_83 : decode cX6_tell 83 = .ok (.ifnonnull 7, 3) := by decide +kernel
theorem dX6_tell_86 : decode cX6_tell 86 = .ok (.iload_n 2, 1) := by decide +kernel
theorem dX6_tell_87 : decode cX6_tell 87 = .ok (.goto 7, 3) := by decide +kernel
theorem dX6_tell_90 : decode cX6_tell 90 = .ok (.aload_n 0, 1) := by decide +kernel
theorem dX6_tell_91 : decode cX6_tell 91 = .ok (.getfield 37, 3) := by decide +kernel
theorem dX6_tell_94 : decode cX6_tell 94 = .ok (.aload_n 0, 1) := by decide +kernel
theorem dX6_tell_95 : decode cX6_tell 95 = .ok (.getfield 19, 3) := by decide +kernel
theorem dX6_tell_98 : decode cX6_tell 98 = .ok (.isub, 1) := by decide +kernel
theorem dX6_tell_99 : decode cX6_tell 99 = .ok (.invokestatic 40, 3) := by decide +kernel
theorem dX6_tell_102 : decode cX6_tell 102 = .ok (.ireturn, 1) := by decide +kernel
theorem dX7_init_0 : decode cX7_init 0 = .ok (.aload_n 0, 1) := by decide +kernel
theorem dX7_init_1 : decode cX7_init 1 = .ok (.invokespecial 3, 3) := by decide +kernel
theorem dX7_init_4 : decode cX7_init 4 = .ok (.aload_n 0, 1) := by decide +kernel
theorem dX7_init_5 : decode cX7_init 5 = .ok (.iconst 4, 1) := by decide +kernel
theorem dX7_init_6 : decode cX7_init 6 = .ok (.newarray .int, 2) := by decide +kernel
theorem dX7_init_8 : decode cX7_init 8 = .ok (.putfield 9, 3) := by decide +kernel
theorem dX7_init_11 : decode cX7_init 11 = .ok (.aload_n 0, 1) := by decide +kernel
theorem dX7_init_12 : decode cX7_init 12 = .ok (.iconst 4, 1) := by decide +kernel
theorem dX7_init_13 : decode cX7_init 13 = .ok (.newarray .int, 2) := by decide +kernel
theorem dX7_init_15 : decode cX7_init 15 = .ok (.putfield 15, 3) := by decide +kernel
theorem dX7_init_18 : decode cX7_init 18 = .ok (.aload_n 0, 1) := by decide +kernel
theorem dX7_init_19 : decode cX7_init 19 = .ok (.iconst (-1), 1) := by decide +kernel
theorem dX7_init_20 : decode cX7_init 20 = .ok (.putfield 18, 3) := by decide +kernel
theorem dX7_init_23 : decode cX7_init 23 = .ok (.aload_n 0, 1) := by decide +kernel
theorem dX7_init_24 : decode cX7_init 24 = .ok (.iload_n 1, 1) := by decide +kernel
theorem dX7_init_25 : decode cX7_init 25 = .ok (.putfield 22, 3) := by decide +kernel
theorem dX7_init_28 : decode cX7_init 28 = .ok (.aload_n 0, 1) := by decide +kernel
theorem dX7_init_29 : decode cX7_init 29 = .ok (.iload_n 2, 1) := by decide +kernel
theorem dX7_init_30 : decode cX7_init 30 = .ok (.putfield 25, 3) := by decide +kernel
theorem dX7_init_33 : decode cX7_init 33 = .ok (.aload_n 0, 1) := by decide +kernel
theorem dX7_init_34 : decode cX7_init 34 = .ok (.iload_n 3, 1) := by decide +kernel
theorem dX7_init_35 : decode cX7_init 35 = .ok (.putfield 28, 3) := by decide +kernel
theorem dX7_init_38 : decode cX7_init 38 = .ok (.aload_n 0, 1) := by decide +kernel
theorem dX7_init_39 : decode cX7_init 39 = .ok (.iload 4, 2) := by decide +kernel
theorem dX7_init_41 : decode cX7_init 41 = .ok (.putfield 31, 3) := by decide +kernel
theorem dX7_init_44 : decode cX7_init 44 = .ok (.return_, 1) := by decide +kernel
theorem dX7_isOnShift_0 : decode cX7_isOnShift 0 = .ok (.iload_n 1, 1) := by decide +kernel
theorem dX7_isOnShift_1 : decode cX7_isOnShift 1 = .ok (.aload_n 0, 1) := by decide +kernel
theorem dX7_isOnShift_2 : decode cX7_isOnShift 2 = .ok (.getfield 28, 3) := by decide +kernel
theorem dX7_isOnShift_5 : decode cX7_isOnShift 5 = .ok (.isub, 1) := by decide +kernel
theorem dX7_isOnShift_6 : decode cX7_isOnShift 6 = .ok (.bipush 24, 2) := by decide +kernel
theorem dX7_isOnShift_8 : decode cX7_isOnShift 8 = .ok (.invokestatic 34, 3) := by decide +kernel
theorem dX7_isOnShift_11 : decode cX7_isOnShift 11 = .ok (.aload_n 0, 1) := by decide +kernel
theorem dX7_isOnShift_12 : decode cX7_isOnShift 12 = .ok (.getfield 31, 3) := by decide +kernel
theorem dX7_isOnShift_15 : decode cX7_isOnShift 15 = .ok (.if_icmp .ge 7, 3) := by decide +kernel
theorem dX7_isOnShift_18 : decode cX7_isOnShift 18 = .ok (.iconst 1, 1) := by decide +kernel
theorem dX7_isOnShift_19 : decode cX7_isOnShift 19 = .ok (.goto 4, 3) := by decide +kernel
theorem dX7_isOnShift_22 : decode cX7_isOnShift 22 = .ok (.iconst 0, 1) := by decide +kernel
theorem dX7_isOnShift_23 : decode cX7_isOnShift 23 = .ok (.ireturn, 1) := by decide +kernel
theorem dX7_canBegin_0 : decode cX7_canBegin 0 = .ok (.aload_n 0, 1) := by decide +kernel
theorem dX7_canBegin_1 : decode cX7_canBegin 1 = .ok (.getfield 18, 3) := by decide +kernel
theorem dX7_canBegin_4 : decode cX7_canBegin 4 = .ok (.iconst (-1), 1) := by decide +kernel
theorem dX7_canBegin_5 : decode cX7_canBegin 5 = .ok (.if_icmp .ne 24, 3) := by decide +kernel
theorem dX7_canBegin_8 : decode cX7_canBegin 8 = .ok (.aload_n 0, 1) := by decide +kernel
theorem dX7_canBegin_9 : decode cX7_canBegin 9 = .ok (.getfield 9, 3) := by decide +kernel
theorem dX7_canBegin_12 : decode cX7_canBegin 12 = .ok (.iload_n 1, 1) := by decide +kernel
theorem dX7_canBegin_13 : decode cX7_canBegin 13 = .ok (.iaload, 1) := by decide +kernel
theorem dX7_canBegin_14 : decode cX7_canBegin 14 = .ok (.ifCond .le 15, 3) := by decide +kernel
theorem dX7_canBegin_17 : decode cX7_canBegin 17 = .ok (.aload_n 0, 1) := by decide +kernel
theorem dX7_canBegin_18 : decode cX7_canBegin 18 = .ok (.iload_n 2, 1) := by decide +kernel
theorem dX7_canBegin_19 : decode cX7_canBegin 19 = .ok (.invokevirtual 40, 3) := by decide +kernel
theorem dX7_canBegin_22 : decode cX7_canBegin 22 = .ok (.ifCond .eq 7, 3) := by decide +kernel
theorem dX7_canBegin_25 : decode cX7_canBegin 25 = .ok (.iconst 1, 1) := by decide +kernel
theorem dX7_canBegin_26 : decode cX7_canBegin 26 = .ok (.goto 4, 3) := by decide +kernel
theorem dX7_canBegin_29 : decode cX7_canBegin 29 = .ok (.iconst 0, 1) := by decide +kernel
theorem dX7_canBegin_30 : decode cX7_canBegin 30 = .ok (.ireturn, 1) := by decide +kernel
theorem dX7_reach_0 : decode cX7_reach 0 = .ok (.aload_n 0, 1) := by decide +kernel
theorem dX7_reach_1 : decode cX7_reach 1 = .ok (.getfield 9, 3) := by decide +kernel
theorem dX7_reach_4 : decode cX7_reach 4 = .ok (.iload_n 1, 1) := by decide +kernel
theorem dX7_reach_5 : decode cX7_reach 5 = .ok (.iload_n 2, 1) := by decide +kernel
theorem dX7_reach_6 : decode cX7_reach 6 = .ok (.iastore, 1) := by decide +kernel
theorem dX7_reach_7 : decode cX7_reach 7 = .ok (.aload_n 0, 1) := by decide +kernel
theorem dX7_reach_8 : decode cX7_reach 8 = .ok (.getfield 15, 3) := by decide +kernel
theorem dX7_reach_11 : decode cX7_reach 11 = .ok (.iload_n 1, 1) := by decide +kernel
theorem dX7_reach_12 : decode cX7_reach 12 = .ok (.iconst 0, 1) := by decide +kernel
theorem dX7_reach_13 : decode cX7_reach 13 = .ok (.iastore, 1) := by decide +kernel
theorem dX7_reach_14 : decode cX7_reach 14 = .ok (.return_, 1) := by decide +kernel
theorem dX7_learnHour_0 : decode cX7_learnHour 0 = .ok (.aload_n 0, 1) := by decide +kernel
theorem dX7_learnHour_1 : decode cX7_learnHour 1 = .ok (.getfield 15, 3) := by decide +kernel
theorem dX7_learnHour_4 : decode cX7_learnHour 4 = .ok (.iload_n 1, 1) := by decide +kernel
theorem dX7_learnHour_5 : decode cX7_learnHour 5 = .ok (.dup2, 1) := by decide +kernel
theorem dX7_learnHour_6 : decode cX7_learnHour 6 = .ok (.iaload, 1) := by decide +kernel
theorem dX7_learnHour_7 : decode cX7_learnHour 7 = .ok (.iconst 1, 1) := by decide +kernel
theorem dX7_learnHour_8 : decode cX7_learnHour 8 = .ok (.iadd, 1) := by decide +kernel
theorem dX7_learnHour_9 : decode cX7_learnHour 9 = .ok (.iastore, 1) := by decide +kernel
theorem dX7_learnHour_10 : decode cX7_learnHour 10 = .ok (.aload_n 0, 1) := by decide +kernel
theorem dX7_learnHour_11 : decode cX7_learnHour 11 = .ok (.getfield 15, 3) := by decide +kernel
theorem dX7_learnHour_14 : decode cX7_learnHour 14 = .ok (.iload_n 1, 1) := by decide +kernel
theorem dX7_learnHour_15 : decode cX7_learnHour 15 = .ok (.iaload, 1) := by decide +kernel
theorem dX7_learnHour_16 : decode cX7_learnHour 16 = .ok (.bipush 8, 2) := by decide +kernel
theorem dX7_learnHour_18 : decode cX7_learnHour 18 = .ok (.if_icmp .lt 26, 3) := by decide +kernel
theorem dX7_learnHour_21 : decode cX7_learnHour 21 = .ok (.aload_n 0, 1) := by decide +kernel
theorem dX7_learnHour_22 : decode cX7_learnHour 22 = .ok (.getfield 9, 3) := by decide +kernel
theorem dX7_learnHour_25 : decode cX7_learnHour 25 = .ok (.iload_n 1, 1) := by decide +kernel
theorem dX7_learnHour_26 : decode cX7_learnHour 26 = .ok (.iaload, 1) := by decide +kernel
theorem dX7_learnHour_27 : decode cX7_learnHour 27 = .ok (.iconst 3, 1) := by decide +kernel
theorem dX7_learnHour_28 : decode cX7_learnHour 28 = .ok (.if_icmp .ge 16, 3) := by decide +kernel
theorem dX7_learnHour_31 : decode cX7_learnHour 31 = .ok (.aload_n 0, 1) := by decide +kernel
theorem dX7_learnHour_32 : decode cX7_learnHour 32 = .ok (.iload_n 1, 1) := by decide +kernel
theorem dX7_learnHour_33 : decode cX7_learnHour 33 = .ok (.aload_n 0, 1) := by decide +kernel
theorem dX7_learnHour_34 : decode cX7_learnHour 34 = .ok (.getfield 9, 3) := by decide +kernel
theorem dX7_learnHour_37 : decode cX7_learnHour 37 = .ok (.iload_n 1, 1) := by decide +kernel
theorem dX7_learnHour_38 : decode cX7_learnHour 38 = .ok (.iaload, 1) := by decide +kernel
theorem dX7_learnHour_39 : decode cX7_learnHour 39 = .ok (.iconst 1, 1) := by decide +kernel
theorem dX7_learnHour_40 : decode cX7_learnHour 40 = .ok (.iadd, 1) := by decide +kernel
theorem dX7_learnHour_41 : decode cX7_learnHour 41 = .ok (.invokevirtual 44, 3) := by decide +kernel
theorem dX7_learnHour_44 : decode cX7_learnHour 44 = .ok (.return_, 1) := by decide +kernel
theorem dX8_init_0 : decode cX8_init 0 = .ok (.aload_n 0, 1) := by decide +kernel
theorem dX8_init_1 : decode cX8_init 1 = .ok (.invokespecial 3, 3) := by decide +kernel
theorem dX8_init_4 : decode cX8_init 4 = .ok (.aload_n 0, 1) := by decide +kernel
theorem dX8_init_5 : decode cX8_init 5 = .ok (.bipush 60, 2) := by decide +kernel
theorem dX8_init_7 : decode cX8_init 7 = .ok (.anewarray 9, 3) := by decide +kernel
theorem dX8_init_10 : decode cX8_init 10 = .ok (.putfield 11, 3) := by decide +kernel
theorem dX8_init_13 : decode cX8_init 13 = .ok (.aload_n 0, 1) := by decide +kernel
theorem dX8_init_14 : decode cX8_init 14 = .ok (.bipush 10, 2) := by decide +kernel
theorem dX8_init_16 : decode cX8_init 16 = .ok (.anewarray 17, 3) := by decide +kernel
theorem dX8_init_19 : decode cX8_init 19 = .ok (.putfield 19, 3) := by decide +kernel
theorem dX8_init_22 : decode cX8_init 22 = .ok (.aload_n 0, 1) := by decide +kernel
theorem dX8_init_23 : decode cX8_init 23 = .ok (.iconst 4, 1) := by decide +kernel
theorem dX8_init_24 : decode cX8_init 24 = .ok (.newarray .int, 2) := by decide +kernel
theorem dX8_init_26 : decode cX8_init 26 = .ok (.putfield 23, 3) := by decide +kernel
theorem dX8_init_29 : decode cX8_init 29 = .ok (.iconst 0, 1) := by decide +kernel
theorem dX8_init_30 : decode cX8_init 30 = .ok (.istore_n 1, 1) := by decide +kernel
theorem dX8_init_31 : decode cX8_init 31 = .ok (.iload_n 1, 1) := by decide +kernel
theorem dX8_init_32 : decode cX8_init 32 = .ok (.aload_n 0, 1) := by decide +kernel
theorem dX8_init_33 : decode cX8_init 33 = .ok (.getfield 23, 3) := by decide +kernel
theorem dX8_init_36 : decode cX8_init 36 = .ok (.arraylength, 1) := by decide +kernel
theorem dX8_init_37 : decode cX8_init 37 = .ok (.if_icmp .ge 17, 3) := by decide +kernel
theorem dX8_init_40 : decode cX8_init 40 = .ok (.aload_n 0, 1) := by decide +kernel
theorem dX8_init_41 : decode cX8_init 41 = .ok (.getfield 23, 3) := by decide +kernel
theorem dX8_init_44 : decode cX8_init 44 = .ok (.iload_n 1, 1) := by decide +kernel
theorem dX8_init_45 : decode cX8_init 45 = .ok (.bipush 9, 2) := by decide +kernel
theorem dX8_init_47 : decode cX8_init 47 = .ok (.iastore, 1) := by decide +kernel
theorem dX8_init_48 : decode cX8_init 48 = .ok (.iinc 1 1, 3) := by decide +kernel
theorem dX8_init_51 : decode cX8_init 51 = .ok (.goto (-20), 3) := by decide +kernel
theorem dX8_init_54 : decode cX8_init 54 = .ok (.return_, 1) := by decide +kernel
theorem dX8_newBatch_0 : decode cX8_newBatch 0 = .ok (.aload_n 0, 1) := by decide +kernel
theorem dX8_newBatch_1 : decode cX8_newBatch 1 = .ok (.getfield 27, 3) := by decide +kernel
theorem dX8_newBatch_4 : decode cX8_newBatch 4 = .ok (.aload_n 0, 1) := by decide +kernel
theorem dX8_newBatch_5 : decode cX8_newBatch 5 = .ok (.getfield 11, 3) := by decide +kernel
theorem dX8_newBatch_8 : decode cX8_newBatch 8 = .ok (.arraylength, 1) := by decide +kernel
theorem dX8_newBatch_9 : decode cX8_newBatch 9 = .ok (.if_icmp .lt 13, 3) := by decide +kernel
theorem dX8_newBatch_12 : decode cX8_newBatch 12 = .ok (.new 31, 3) := by decide +kernel
theorem dX8_newBatch_15 : decode cX8_newBatch 15 = .ok (.dup, 1) := by decide +kernel
theorem dX8_newBatch_16 : decode cX8_newBatch 16 = .ok (.ldc 33, 2) := by decide +kernel
theorem dX8_newBatch_18 : decode cX8_newBatch 18 = .ok (.invokespecial 35, 3) := by decide +kernel
theorem dX8_newBatch_21 : decode cX8_newBatch 21 = .ok (.athrow, 1) := by decide +kernel
theorem dX8_newBatch_22 : decode cX8_newBatch 22 = .ok (.new 9, 3) := by decide +kernel
theorem dX8_newBatch_25 : decode cX8_newBatch 25 = .ok (.dup, 1) := by decide +kernel
theorem dX8_newBatch_26 : decode cX8_newBatch 26 = .ok (.aload_n 0, 1) := by decide +kernel
theorem dX8_newBatch_27 : decode cX8_newBatch 27 = .ok (.getfield 27, 3) := by decide +kernel
theorem dX8_newBatch_30 : decode cX8_newBatch 30 = .ok (.aload_n 1, 1) := by decide +kernel
theorem dX8_newBatch_31 : decode cX8_newBatch 31 = .ok (.iload_n 2, 1) := by decide +kernel
theorem dX8_newBatch_32 : decode cX8_newBatch 32 = .ok (.iload_n 3, 1) := by decide +kernel
theorem dX8_newBatch_33 : decode cX8_newBatch 33 = .ok (.invokespecial 38, 3) := by decide +kernel
theorem dX8_newBatch_36 : decode cX8_newBatch 36 = .ok (.astore 4, 2) := by decide +kernel
theorem dX8_newBatch_38 : decode cX8_newBatch 38 = .ok (.aload_n 0, 1) := by decide +kernel
theorem dX8_newBatch_39 : decode cX8_newBatch 39 = .ok (.getfield 11, 3) := by decide +kernel
theorem dX8_newBatch_42 : decode cX8_newBatch 42 = .ok (.aload_n 0, 1) := by decide +kernel
theorem dX8_newBatch_43 : decode cX8_newBatch 43 = .ok (.getfield 27, 3) := by decide +kernel
theorem dX8_newBatch_46 : decode cX8_newBatch 46 = .ok (.aload 4, 2) := by decide +kernel
theorem dX8_newBatch_48 : decode cX8_newBatch 48 = .ok (.aastore, 1) := by decide +kernel
theorem dX8_newBatch_49 : decode cX8_newBatch 49 = .ok (.aload_n 0, 1) := by decide +kernel
theorem dX8_newBatch_50 : decode cX8_newBatch 50 = .ok (.dup, 1) := by decide +kernel
theorem dX8_newBatch_51 : decode cX8_newBatch 51 = .ok (.getfield 27, 3) := by decide +kernel
theorem dX8_newBatch_54 : decode cX8_newBatch 54 = .ok (.iconst 1, 1) := by decide +kernel
theorem dX8_newBatch_55 : decode cX8_newBatch 55 = .ok (.iadd, 1) := by decide +kernel
theorem dX8_newBatch_56 : decode cX8_newBatch 56 = .ok (.putfield 27, 3) := by decide +kernel
theorem dX8_newBatch_59 : decode cX8_newBatch 59 = .ok (.aload_n 1, 1) := by decide +kernel
theorem dX8_newBatch_60 : decode cX8_newBatch 60 = .ok (.iconst 1, 1) := by decide +kernel
theorem dX8_newBatch_61 : decode cX8_newBatch 61 = .ok (.putfield 41, 3) := by decide +kernel
theorem dX8_newBatch_64 : decode cX8_newBatch 64 = .ok (.aload 4, 2) := by decide +kernel
theorem dX8_newBatch_66 : decode cX8_newBatch 66 = .ok (.areturn, 1) := by decide +kernel
theorem dX8_putOrder_0 : decode cX8_putOrder 0 = .ok (.aload_n 0, 1) := by decide +kernel
theorem dX8_putOrder_1 : decode cX8_putOrder 1 = .ok (.getfield 47, 3) := by decide +kernel
theorem dX8_putOrder_4 : decode cX8_putOrder 4 = .ok (.aload_n 0, 1) := by decide +kernel
theorem dX8_putOrder_5 : decode cX8_putOrder 5 = .ok (.getfield 19, 3) := by decide +kernel
theorem dX8_putOrder_8 : decode cX8_putOrder 8 = .ok (.arraylength, 1) := by decide +kernel
theorem dX8_putOrder_9 : decode cX8_putOrder 9 = .ok (.if_icmp .lt 13, 3) := by decide +kernel
theorem dX8_putOrder_12 : decode cX8_putOrder 12 = .ok (.new 31, 3) := by decide +kernel
theorem dX8_putOrder_15 : decode cX8_putOrder 15 = .ok (.dup, 1) := by decide +kernel
theorem dX8_putOrder_16 : decode cX8_putOrder 16 = .ok (.ldc 50, 2) := by decide +kernel
theorem dX8_putOrder_18 : decode cX8_putOrder 18 = .ok (.invokespecial 35, 3) := by decide +kernel
theorem dX8_putOrder_21 : decode cX8_putOrder 21 = .ok (.athrow, 1) := by decide +kernel
theorem dX8_putOrder_22 : decode cX8_putOrder 22 = .ok (.aload_n 0, 1) := by decide +kernel
theorem dX8_putOrder_23 : decode cX8_putOrder 23 = .ok (.getfield 19, 3) := by decide +kernel
theorem dX8_putOrder_26 : decode cX8_putOrder 26 = .ok (.aload_n 0, 1) := by decide +kernel
theorem dX8_putOrder_27 : decode cX8_putOrder 27 = .ok (.getfield 47, 3) := by decide +kernel
theorem dX8_putOrder_30 : decode cX8_putOrder 30 = .ok (.aload_n 1, 1) := by decide +kernel
theorem dX8_putOrder_31 : decode cX8_putOrder 31 = .ok (.aastore, 1) := by decide +kernel
theorem dX8_putOrder_32 : decode cX8_putOrder 32 = .ok (.aload_n 0, 1) := by decide +kernel
theorem dX8_putOrder_33 : decode cX8_putOrder 33 = .ok (.dup, 1) := by decide +kernel
theorem dX8_putOrder_34 : decode cX8_putOrder 34 = .ok (.getfield 47, 3) := by decide +kernel
theorem dX8_putOrder_37 : decode cX8_putOrder 37 = .ok (.iconst 1, 1) := by decide +kernel
theorem dX8_putOrder_38 : decode cX8_putOrder 38 = .ok (.iadd, 1) := by decide +kernel
theorem dX8_putOrder_39 : decode cX8_putOrder 39 = .ok (.putfield 47, 3) := by decide +kernel
theorem dX8_putOrder_42 : decode cX8_putOrder 42 = .ok (.return_, 1) := by decide +kernel
theorem dX8_queueLength_0 : decode cX8_queueLength 0 = .ok (.iconst 0, 1) := by decide +kernel
theorem dX8_queueLength_1 : decode cX8_queueLength 1 = .ok (.istore_n 2, 1) := by decide +kernel
theorem dX8_queueLength_2 : decode cX8_queueLength 2 = .ok (.iconst 0, 1) := by decide +kernel
theorem dX8_queueLength_3 : decode cX8_queueLength 3 = .ok (.istore_n 3, 1) := by decide +kernel
theorem dX8_queueLength_4 : decode cX8_queueLength 4 = .ok (.iload_n 3, 1) := by decide +kernel
theorem dX8_queueLength_5 : decode cX8_queueLength 5 = .ok (.aload_n 0, 1) := by decide +kernel
theorem dX8_queueLength_6 : decode cX8_queueLength 6 = .ok (.getfield 27, 3) := by decide +kernel
theorem dX8_queueLength_9 : decode cX8_queueLength 9 = .ok (.if_icmp .ge 25, 3) := by decide +kernel
theorem dX8_queueLength_12 : decode cX8_queueLength 12 = .ok (.aload_n 0, 1) := by decide +kernel
theorem dX8_queueLength_13 : decode cX8_queueLength 13 = .ok (.getfield 11, 3) := by decide +kernel
theorem dX8_queueLength_16 : decode cX8_queueLength 16 = .ok (.iload_n 3, 1) := by decide +kernel
theorem dX8_queueLength_17 : decode cX8_queueLength 17 = .ok (.aaload, 1) := by decide +kernel
theorem dX8_queueLength_18 : decode cX8_queueLength 18 = .ok (.iload_n 1, 1) := by decide +kernel
theorem dX8_queueLength_19 : decode cX8_queueLength 19 = .ok (.invokevirtual 52, 3) := by decide +kernel
theorem dX8_queueLength_22 : decode cX8_queueLength 22 = .ok (.ifCond .eq 6, 3) := by decide +kernel
theorem dX8_queueLength_25 : decode cX8_queueLength 25 = .ok (.iinc 2 1, 3) := by decide +kernel
theorem dX8_queueLength_28 : decode cX8_queueLength 28 = .ok (.iinc 3 1, 3) := by decide +kernel
theorem dX8_queueLength_31 : decode cX8_queueLength 31 = .ok (.goto (-27), 3) := by decide +kernel
theorem dX8_queueLength_34 : decode cX8_queueLength 34 = .ok (.iload_n 2, 1) := by decide +kernel
theorem dX8_queueLength_35 : decode cX8_queueLength 35 = .ok (.ireturn, 1) := by decide +kernel
theorem dX8_hasQueueRoom_0 : decode cX8_hasQueueRoom 0 = .ok (.aload_n 1, 1) := by decide +kernel
theorem dX8_hasQueueRoom_1 : decode cX8_hasQueueRoom 1 = .ok (.ifnull 27, 3) := by decide +kernel
theorem dX8_hasQueueRoom_4 : decode cX8_hasQueueRoom 4 = .ok (.aload_n 0, 1) := by decide +kernel
theorem dX8_hasQueueRoom_5 : decode cX8_hasQueueRoom 5 = .ok (.aload_n 1, 1) := by decide +kernel
theorem dX8_hasQueueRoom_6 : decode cX8_hasQueueRoom 6 = .ok (.getfield 56, 3) := by decide +kernel
theorem dX8_hasQueueRoom_9 : decode cX8_hasQueueRoom 9 = .ok (.invokevirtual 61, 3) := by decide +kernel
theorem dX8_hasQueueRoom_12 : decode cX8_hasQueueRoom 12 = .ok (.aload_n 0, 1) := by decide +kernel
theorem dX8_hasQueueRoom_13 : decode cX8_hasQueueRoom 13 = .ok (.getfield 23, 3) := by decide +kernel
theorem dX8_hasQueueRoom_16 : decode cX8_hasQueueRoom 16 = .ok (.aload_n 1, 1) := by decide +kernel
theorem dX8_hasQueueRoom_17 : decode cX8_hasQueueRoom 17 = .ok (.getfield 56, 3) := by decide +kernel
theorem dX8_hasQueueRoom_20 : decode cX8_hasQueueRoom 20 = .ok (.iaload, 1) := by decide +kernel
theorem dX8_hasQueueRoom_21 : decode cX8_hasQueueRoom 21 = .ok (.if_icmp .ge 7, 3) := by decide +kernel
theorem dX8_hasQueueRoom_24 : decode cX8_hasQueueRoom 24 = .ok (.iconst 1, 1) := by decide +kernel
theorem dX8_hasQueueRoom_25 : decode cX8_hasQueueRoom 25 = .ok (.goto 4, 3) := by decide +kernel
theorem dX8_hasQueueRoom_28 : decode cX8_hasQueueRoom 28 = .ok (.iconst 0, 1) := by decide +kernel
theorem dX8_hasQueueRoom_29 : decode cX8_hasQueueRoom 29 = .ok (.ireturn, 1) := by decide +kernel
theorem dX8_queuedAt_0 : decode cX8_queuedAt 0 = .ok (.iconst 0, 1) := by decide +kernel
theorem dX8_queuedAt_1 : decode cX8_queuedAt 1 = .ok (.istore_n 3, 1) := by decide +kernel
theorem dX8_queuedAt_2 : decode cX8_queuedAt 2 = .ok (.bipush 9, 2) := by decide +kernel
theorem dX8_queuedAt_4 : decode cX8_queuedAt 4 = .ok (.istore 4, 2) := by decide +kernel
theorem dX8_queuedAt_6 : decode cX8_queuedAt 6 = .ok (.iload 4, 2) := by decide +kernel
theorem dX8_queuedAt_8 : decode cX8_queuedAt 8 = .ok (.ifCond .lt 70, 3) := by decide +kernel
theorem dX8_queuedAt_11 : decode cX8_queuedAt 11 = .ok (.iconst 0, 1) := by decide +kernel
theorem dX8_queuedAt_12 : decode cX8_queuedAt 12 = .ok (.istore 5, 2) := by decide +kernel
theorem dX8_queuedAt_14 : decode cX8_queuedAt 14 = .ok (.iload 5, 2) := by decide +kernel
theorem dX8_queuedAt_16 : decode cX8_queuedAt 16 = .ok (.aload_n 0, 1) := by decide +kernel
theorem dX8_queuedAt_17 : decode cX8_queuedAt 17 = .ok (.getfield 27, 3) := by decide +kernel
theorem dX8_queuedAt_20 : decode cX8_queuedAt 20 = .ok (.if_icmp .ge 52, 3) := by decide +kernel
theorem dX8_queuedAt_23 : decode cX8_queuedAt 23 = .ok (.aload_n 0, 1) := by decide +kernel
theorem dX8_queuedAt_24 : decode cX8_queuedAt 24 = .ok (.getfield 11, 3) := by decide +kernel
theorem dX8_queuedAt_27 : decode cX8_queuedAt 27 = .ok (.iload 5, 2) := by decide +kernel
theorem dX8_queuedAt_29 : decode cX8_queuedAt 29 = .ok (.aaload, 1) := by decide +kernel
theorem dX8_queuedAt_30 : decode cX8_queuedAt 30 = .ok (.getfield 65, 3) := by decide +kernel
theorem dX8_queuedAt_33 : decode cX8_queuedAt 33 = .ok (.iload 4, 2) := by decide +kernel
theorem dX8_queuedAt_35 : decode cX8_queuedAt 35 = .ok (.if_icmp .ne 31, 3) := by decide +kernel
theorem dX8_queuedAt_38 : decode cX8_queuedAt 38 = .ok (.aload_n 0, 1) := by decide +kernel
theorem dX8_queuedAt_39 : decode cX8_queuedAt 39 = .ok (.getfield 11, 3) := by decide +kernel
theorem dX8_queuedAt_42 : decode cX8_queuedAt 42 = .ok (.iload 5, 2) := by decide +kernel
theorem dX8_queuedAt_44 : decode cX8_queuedAt 44 = .ok (.aaload, 1) := by decide +kernel
theorem dX8_queuedAt_45 : decode cX8_queuedAt 45 = .ok (.iload_n 1, 1) := by decide +kernel
theorem dX8_queuedAt_46 : decode cX8_queuedAt 46 = .ok (.invokevirtual 52, 3) := by decide +kernel
theorem dX8_queuedAt_49 : decode cX8_queuedAt 49 = .ok (.ifCond .ne 6, 3) := by decide +kernel
theorem dX8_queuedAt_52 : decode cX8_queuedAt 52 = .ok (.goto 14, 3) := by decide +kernel
theorem dX8_queuedAt_55 : decode cX8_queuedAt 55 = .ok (.iload_n 3, 1) := by decide +kernel
theorem dX8_queuedAt_56 : decode cX8_queuedAt 56 = .ok (.iload_n 2, 1) := by decide +kernel
theorem dX8_queuedAt_57 : decode cX8_queuedAt 57 = .ok (.if_icmp .ne 6, 3) := by decide +kernel
theorem dX8_queuedAt_60 : decode cX8_queuedAt 60 = .ok (.iload 5, 2) := by decide +kernel
theorem dX8_queuedAt_62 : decode cX8_queuedAt 62 = .ok (.ireturn, 1) := by decide +kernel
theorem dX8_queuedAt_63 : decode cX8_queuedAt 63 = .ok (.iinc 3 1, 3) := by decide +kernel
theorem dX8_queuedAt_66 : decode cX8_queuedAt 66 = .ok (.iinc 5 1, 3) := by decide +kernel
theorem dX8_queuedAt_69 : decode cX8_queuedAt 69 = .ok (.goto (-55), 3) := by decide +kernel
theorem dX8_queuedAt_72 : decode cX8_queuedAt 72 = .ok (.iinc 4 (-1), 3) := by decide +kernel
theorem dX8_queuedAt_75 : decode cX8_queuedAt 75 = .ok (.goto (-69), 3) := by decide +kernel
theorem dX8_queuedAt_78 : decode cX8_queuedAt 78 = .ok (.iconst (-1), 1) := by decide +kernel
theorem dX8_queuedAt_79 : decode cX8_queuedAt 79 = .ok (.ireturn, 1) := by decide +kernel
theorem dX8_putInStore_0 : decode cX8_putInStore 0 = .ok (.aload_n 1, 1) := by decide +kernel
theorem dX8_putInStore_1 : decode cX8_putInStore 1 = .ok (.iconst 3, 1) := by decide +kernel
theorem dX8_putInStore_2 : decode cX8_putInStore 2 = .ok (.putfield 68, 3) := by decide +kernel
theorem dX8_putInStore_5 : decode cX8_putInStore 5 = .ok (.aload_n 1, 1) := by decide +kernel
theorem dX8_putInStore_6 : decode cX8_putInStore 6 = .ok (.getfield 71, 3) := by decide +kernel
theorem dX8_putInStore_9 : decode cX8_putInStore 9 = .ok (.dup, 1) := by decide +kernel
theorem dX8_putInStore_10 : decode cX8_putInStore 10 = .ok (.getfield 75, 3) := by decide +kernel
theorem dX8_putInStore_13 : decode cX8_putInStore 13 = .ok (.aload_n 1, 1) := by decide +kernel
theorem dX8_putInStore_14 : decode cX8_putInStore 14 = .ok (.getfield 78, 3) := by decide +kernel
theorem dX8_putInStore_17 : decode cX8_putInStore 17 = .ok (.iadd, 1) := by decide +kernel
theorem dX8_putInStore_18 : decode cX8_putInStore 18 = .ok (.putfield 75, 3) := by decide +kernel
theorem dX8_putInStore_21 : decode cX8_putInStore 21 = .ok (.return_, 1) := by decide +kernel
theorem dX8_letCome_0 : decode cX8_letCome 0 = .ok (.iconst 0, 1) := by decide +kernel
theorem dX8_letCome_1 : decode cX8_letCome 1 = .ok (.istore_n 2, 1) := by decide +kernel
theorem dX8_letCome_2 : decode cX8_letCome 2 = .ok (.iload_n 2, 1) := by decide +kernel
theorem dX8_letCome_3 : decode cX8_letCome 3 = .ok (.aload_n 0, 1) := by decide +kernel
theorem dX8_letCome_4 : decode cX8_letCome 4 = .ok (.getfield 27, 3) := by decide +kernel
theorem dX8_letCome_7 : decode cX8_letCome 7 = .ok (.if_icmp .ge 55, 3) := by decide +kernel
theorem dX8_letCome_10 : decode cX8_letCome 10 = .ok (.aload_n 0, 1) := by decide +kernel
theorem dX8_letCome_11 : decode cX8_letCome 11 = .ok (.getfield 11, 3) := by decide +kernel
theorem dX8_letCome_14 : decode cX8_letCome 14 = .ok (.iload_n 2, 1) := by decide +kernel
theorem dX8_letCome_15 : decode cX8_letCome 15 = .ok (.aaload, 1) := by decide +kernel
theorem dX8_letCome_16 : decode cX8_letCome 16 = .ok (.astore_n 3, 1) := by decide +kernel
theorem dX8_letCome_17 : decode cX8_letCome 17 = .ok (.aload_n 3, 1) := by decide +kernel
theorem dX8_letCome_18 : decode cX8_letCome 18 = .ok (.getfield 68, 3) := by decide +kernel
theorem dX8_letCome_21 : decode cX8_letCome 21 = .ok (.ifCond .ne 35, 3) := by decide +kernel
theorem dX8_letCome_24 : decode cX8_letCome 24 = .ok (.aload_n 3, 1) := by decide +kernel
theorem dX8_letCome_25 : decode cX8_letCome 25 = .ok (.getfield 81, 3) := by decide +kernel
theorem dX8_letCome_28 : decode cX8_letCome 28 = .ok (.iload_n 1, 1) := by decide +kernel
theorem dX8_letCome_29 : decode cX8_letCome 29 = .ok (.if_icmp .gt 27, 3) := by decide +kernel
theorem dX8_letCome_32 : decode cX8_letCome 32 = .ok (.aload_n 3, 1) := by decide +kernel
theorem dX8_letCome_33 : decode cX8_letCome 33 = .ok (.getfield 71, 3) := by decide +kernel
theorem dX8_letCome_36 : decode cX8_letCome 36 = .ok (.aload_n 3, 1) := by decide +kernel
theorem dX8_letCome_37 : decode cX8_letCome 37 = .ok (.getfield 78, 3) := by decide +kernel
theorem dX8_letCome_40 : decode cX8_letCome 40 = .ok (.invokevirtual 84, 3) := by decide +kernel
theorem dX8_letCome_43 : decode cX8_letCome 43 = .ok (.ifCond .eq 13, 3) := by decide +kernel
theorem dX8_letCome_46 : decode cX8_letCome 46 = .ok (.aload_n 3, 1) := by decide +kernel
theorem dX8_letCome_47 : decode cX8_letCome 47 = .ok (.iload_n 1, 1) := by decide +kernel
theorem dX8_letCome_48 : decode cX8_letCome 48 = .ok (.putfield 81, 3) := by decide +kernel
theorem dX8_letCome_51 : decode cX8_letCome 51 = .ok (.aload_n 0, 1) := by decide +kernel
theorem dX8_letCome_52 : decode cX8_letCome 52 = .ok (.aload_n 3, 1) := by decide +kernel
theorem dX8_letCome_53 : decode cX8_letCome 53 = .ok (.invokevirtual 87, 3) := by decide +kernel
theorem dX8_letCome_56 : decode cX8_letCome 56 = .ok (.iinc 2 1, 3) := by decide +kernel
theorem dX8_letCome_59 : decode cX8_letCome 59 = .ok (.goto (-57), 3) := by decide +kernel
theorem dX8_letCome_62 : decode cX8_letCome 62 = .ok (.return_, 1) := by decide +kernel
theorem dX8_take_0 : decode cX8_take 0 = .ok (.iload_n 2, 1) := by decide +kernel
theorem dX8_take_1 : decode cX8_take 1 = .ok (.istore_n 3, 1) := by decide +kernel
theorem dX8_take_2 : decode cX8_take 2 = .ok (.iconst 0, 1) := by decide +kernel
theorem dX8_take_3 : decode cX8_take 3 = .ok (.istore 4, 2) := by decide +kernel
theorem dX8_take_5 : decode cX8_take 5 = .ok (.iconst 0, 1) := by decide +kernel
theorem dX8_take_6 : decode cX8_take 6 = .ok (.istore 5, 2) := by decide +kernel
theorem dX8_take_8 : decode cX8_take 8 = .ok (.iload 5, 2) := by decide +kernel
theorem dX8_take_10 : decode cX8_take 10 = .ok (.aload_n 0, 1) := by decide +kernel
theorem dX8_take_11 : decode cX8_take 11 = .ok (.getfield 27, 3) := by decide +kernel
theorem dX8_take_14 : decode cX8_take 14 = .ok (.if_icmp .ge 68, 3) := by decide +kernel
theorem dX8_take_17 : decode cX8_take 17 = .ok (.iload_n 3, 1) := by decide +kernel
theorem dX8_take_18 : decode cX8_take 18 = .ok (.ifCond .le 64, 3) := by decide +kernel
theorem dX8_take_21 : decode cX8_take 21 = .ok (.aload_n 0, 1) := by decide +kernel
theorem dX8_take_22 : decode cX8_take 22 = .ok (.getfield 11, 3) := by decide +kernel
theorem dX8_take_25 : decode cX8_take 25 = .ok (.iload 5, 2) := by decide +kernel
theorem dX8_take_27 : decode cX8_take 27 = .ok (.aaload, 1) := by decide +kernel
theorem dX8_take_28 : decode cX8_take 28 = .ok (.astore 6, 2) := by decide +kernel
theorem dX8_take_30 : decode cX8_take 30 = .ok (.aload 6, 2) := by decide +kernel
theorem dX8_take_32 : decode cX8_take 32 = .ok (.getfield 71, 3) := by decide +kernel
theorem dX8_take_35 : decode cX8_take 35 = .ok (.aload_n 1, 1) := by decide +kernel
theorem dX8_take_36 : decode cX8_take 36 = .ok (.if_acmp .ne 40, 3) := by decide +kernel
theorem dX8_take_39 : decode cX8_take 39 = .ok (.aload 6, 2) := by decide +kernel
theorem dX8_take_41 : decode cX8_take 41 = .ok (.getfield 68, 3) := by decide +kernel
theorem dX8_take_44 : decode cX8_take 44 = .ok (.iconst 3, 1) := by decide +kernel
theorem dX8_take_45 : decode cX8_take 45 = .ok (.if_icmp .ne 31, 3) := by decide +kernel
theorem dX8_take_48 : decode cX8_take 48 = .ok (.iload_n 3, 1) := by decide +kernel
theorem dX8_take_49 : decode cX8_take 49 = .ok (.aload 6, 2) := by decide +kernel
theorem dX8_take_51 : decode cX8_take 51 = .ok (.getfield 78, 3) := by decide +kernel
theorem dX8_take_54 : decode cX8_take 54 = .ok (.invokestatic 91, 3) := by decide +kernel
theorem dX8_take_57 : decode cX8_take 57 = .ok (.istore 7, 2) := by decide +kernel
theorem dX8_take_59 : decode cX8_take 59 = .ok (.iload 4, 2) := by decide +kernel
theorem dX8_take_61 : decode cX8_take 61 = .ok (.aload 6, 2) := by decide +kernel
theorem dX8_take_63 : decode cX8_take 63 = .ok (.iload 7, 2) := by decide +kernel
theorem dX8_take_65 : decode cX8_take 65 = .ok (.invokevirtual 97, 3) := by decide +kernel
theorem dX8_take_68 : decode cX8_take 68 = .ok (.iadd, 1) := by decide +kernel
theorem dX8_take_69 : decode cX8_take 69 = .ok (.istore 4, 2) := by decide +kernel
theorem dX8_take_71 : decode cX8_take 71 = .ok (.iload_n 3, 1) := by decide +kernel
theorem dX8_take_72 : decode cX8_take 72 = .ok (.iload 7, 2) := by decide +kernel
theorem dX8_take_74 : decode cX8_take 74 = .ok (.isub, 1) := by decide +kernel
theorem dX8_take_75 : decode cX8_take 75 = .ok (.istore_n 3, 1) := by decide +kernel
theorem dX8_take_76 : decode cX8_take 76 = .ok (.iinc 5 1, 3) := by decide +kernel
theorem dX8_take_79 : decode cX8_take 79 = .ok (.goto (-71), 3) := by decide +kernel
theorem dX8_take_82 : decode cX8_take 82 = .ok (.aload_n 1, 1) := by decide +kernel
theorem dX8_take_83 : decode cX8_take 83 = .ok (.dup, 1) := by decide +kernel
theorem dX8_take_84 : decode cX8_take 84 = .ok (.getfield 75, 3) := by decide +kernel
theorem dX8_take_87 : decode cX8_take 87 = .ok (.iload_n 2, 1) := by decide +kernel
theorem dX8_take_88 : decode cX8_take 88 = .ok (.iload_n 3, 1) := by decide +kernel
theorem dX8_take_89 : decode cX8_take 89 = .ok (.isub, 1) := by decide +kernel
theorem dX8_take_90 : decode cX8_take 90 = .ok (.isub, 1) := by decide +kernel
theorem dX8_take_91 : decode cX8_take 91 = .ok (.putfield 75, 3) := by decide +kernel
theorem dX8_take_94 : decode cX8_take 94 = .ok (.iload 4, 2) := by decide +kernel
theorem dX8_take_96 : decode cX8_take 96 = .ok (.ireturn, 1) := by decide +kernel
theorem dX8_sourcesOf_0 : decode cX8_sourcesOf 0 = .ok (.iload_n 2, 1) := by decide +kernel
theorem dX8_sourcesOf_1 : decode cX8_sourcesOf 1 = .ok (.istore_n 3, 1) := by decide +kernel
theorem dX8_sourcesOf_2 : decode cX8_sourcesOf 2 = .ok (.lconst 0, 1) := by decide +kernel
theorem dX8_sourcesOf_3 : decode cX8_sourcesOf 3 = .ok (.lstore 4, 2) := by decide +kernel
theorem dX8_sourcesOf_5 : decode cX8_sourcesOf 5 = .ok (.iconst 0, 1) := by decide +kernel
theorem dX8_sourcesOf_6 : decode cX8_sourcesOf 6 = .ok (.istore 6, 2) := by decide +kernel
theorem dX8_sourcesOf_8 : decode cX8_sourcesOf 8 = .ok (.iload 6, 2) := by decide +kernel
theorem dX8_sourcesOf_10 : decode cX8_sourcesOf 10 = .ok (.aload_n 0, 1) := by decide +kernel
theorem dX8_sourcesOf_11 : decode cX8_sourcesOf 11 = .ok (.getfield 27, 3) := by decide +kernel
theorem dX8_sourcesOf_14 : decode cX8_sourcesOf 14 = .ok (.if_icmp .ge 58, 3) := by decide +kernel
theorem dX8_sourcesOf_17 : decode cX8_sourcesOf 17 = .ok (.iload_n 3, 1) := by decide +kernel
theorem dX8_sourcesOf_18 : decode cX8_sourcesOf 18 = .ok (.ifCond .le 54, 3) := by decide +kernel
theorem dX8_sourcesOf_21 : decode cX8_sourcesOf 21 = .ok (.aload_n 0, 1) := by decide +kernel
theorem dX8_sourcesOf_22 : decode cX8_sourcesOf 22 = .ok (.getfield 11, 3) := by decide +kernel
theorem dX8_sourcesOf_25 : decode cX8_sourcesOf 25 = .ok (.iload 6, 2) := by decide +kernel
theorem dX8_sourcesOf_27 : decode cX8_sourcesOf 27 = .ok (.aaload, 1) := by decide +kernel
theorem dX8_sourcesOf_28 : decode cX8_sourcesOf 28 = .ok (.astore 7, 2) := by decide +kernel
theorem dX8_sourcesOf_30 : decode cX8_sourcesOf 30 = .ok (.aload 7, 2) := by decide +kernel
theorem dX8_sourcesOf_32 : decode cX8_sourcesOf 32 = .ok (.getfield 71, 3) := by decide +kernel
theorem dX8_sourcesOf_35 : decode cX8_sourcesOf 35 = .ok (.aload_n 1, 1) := by decide +kernel
theorem dX8_sourcesOf_36 : decode cX8_sourcesOf 36 = .ok (.if_acmp .ne 30, 3) := by decide +kernel
theorem dX8_sourcesOf_39 : decode cX8_sourcesOf 39 = .ok (.aload 7, 2) := by decide +kernel
theorem dX8_sourcesOf_41 : decode cX8_sourcesOf 41 = .ok (.getfield 68, 3) := by decide +kernel
theorem dX8_sourcesOf_44 : decode cX8_sourcesOf 44 = .ok (.iconst 3, 1) := by decide +kernel
theorem dX8_sourcesOf_45 : decode cX8_sourcesOf 45 = .ok (.if_icmp .ne 21, 3) := by decide +kernel
theorem dX8_sourcesOf_48 : decode cX8_sourcesOf 48 = .ok (.lload 4, 2) := by decide +kernel
theorem dX8_sourcesOf_50 : decode cX8_sourcesOf 50 = .ok (.aload 7, 2) := by decide +kernel
theorem dX8_sourcesOf_52 : decode cX8_sourcesOf 52 = .ok (.invokevirtual 100, 3) := by decide +kernel
theorem dX8_sourcesOf_55 : decode cX8_sourcesOf 55 = .ok (.lor, 1) := by decide +kernel
theorem dX8_sourcesOf_56 : decode cX8_sourcesOf 56 = .ok (.lstore 4, 2) := by decide +kernel
theorem dX8_sourcesOf_58 : decode cX8_sourcesOf 58 = .ok (.iload_n 3, 1) := by decide +kernel
theorem dX8_sourcesOf_59 : decode cX8_sourcesOf 59 = .ok (.aload 7, 2) := by decide +kernel
theorem dX8_sourcesOf_61 : decode cX8_sourcesOf 61 = .ok (.getfield 78, 3) := by decide +kernel
theorem dX8_sourcesOf_64 : decode cX8_sourcesOf 64 = .ok (.isub, 1) := by decide +kernel
theorem dX8_sourcesOf_65 : decode cX8_sourcesOf 65 = .ok (.istore_n 3, 1) := by decide +kernel
theorem dX8_sourcesOf_66 : decode cX8_sourcesOf 66 = .ok (.iinc 6 1, 3) := by decide +kernel
theorem dX8_sourcesOf_69 : decode cX8_sourcesOf 69 = .ok (.goto (-61), 3) := by decide +kernel
theorem dX8_sourcesOf_72 : decode cX8_sourcesOf 72 = .ok (.lload 4, 2) := by decide +kernel
theorem dX8_sourcesOf_74 : decode cX8_sourcesOf 74 = .ok (.lreturn, 1) := by decide +kernel
theorem dX8_moveInto_0 : decode cX8_moveInto 0 = .ok (.aload_n 1, 1) := by decide +kernel
theorem dX8_moveInto_1 : decode cX8_moveInto 1 = .ok (.dup, 1) := by decide +kernel
theorem dX8_moveInto_2 : decode cX8_moveInto 2 = .ok (.getfield 104, 3) := by decide +kernel
theorem dX8_moveInto_5 : decode cX8_moveInto 5 = .ok (.aload_n 0, 1) := by decide +kernel
theorem dX8_moveInto_6 : decode cX8_moveInto 6 = .ok (.aload_n 2, 1) := by decide +kernel
theorem dX8_moveInto_7 : decode cX8_moveInto 7 = .ok (.iload_n 3, 1) := by decide +kernel
theorem dX8_moveInto_8 : decode cX8_moveInto 8 = .ok (.invokevirtual 108, 3) := by decide +kernel
theorem dX8_moveInto_11 : decode cX8_moveInto 11 = .ok (.lor, 1) := by decide +kernel
theorem dX8_moveInto_12 : decode cX8_moveInto 12 = .ok (.putfield 104, 3) := by decide +kernel
theorem dX8_moveInto_15 : decode cX8_moveInto 15 = .ok (.aload_n 1, 1) := by decide +kernel
theorem dX8_moveInto_16 : decode cX8_moveInto 16 = .ok (.dup, 1) := by decide +kernel
theorem dX8_moveInto_17 : decode cX8_moveInto 17 = .ok (.getfield 112, 3) := by decide +kernel
theorem dX8_moveInto_20 : decode cX8_moveInto 20 = .ok (.aload_n 0, 1) := by decide +kernel
theorem dX8_moveInto_21 : decode cX8_moveInto 21 = .ok (.aload_n 2, 1) := by decide +kernel
theorem dX8_moveInto_22 : decode cX8_moveInto 22 = .ok (.iload_n 3, 1) := by decide +kernel
theorem dX8_moveInto_23 : decode cX8_moveInto 23 = .ok (.invokevirtual 115, 3) := by decide +kernel
theorem dX8_moveInto_26 : decode cX8_moveInto 26 = .ok (.iadd, 1) := by decide +kernel
theorem dX8_moveInto_27 : decode cX8_moveInto 27 = .ok (.putfield 112, 3) := by decide +kernel
theorem dX8_moveInto_30 : decode cX8_moveInto 30 = .ok (.return_, 1) := by decide +kernel
theorem dX8_familyOf_0 : decode cX8_familyOf 0 = .ok (.aload_n 1, 1) := by decide +kernel
theorem dX8_familyOf_1 : decode cX8_familyOf 1 = .ok (.invokevirtual 100, 3) := by decide +kernel
theorem dX8_familyOf_4 : decode cX8_familyOf 4 = .ok (.lstore_n 2, 1) := by decide +kernel
theorem dX8_familyOf_5 : decode cX8_familyOf 5 = .ok (.iconst 0, 1) := by decide +kernel
theorem dX8_familyOf_6 : decode cX8_familyOf 6 = .ok (.istore 4, 2) := by decide +kernel
theorem dX8_familyOf_8 : decode cX8_familyOf 8 = .ok (.iload 4, 2) := by decide +kernel
theorem dX8_familyOf_10 : decode cX8_familyOf 10 = .ok (.aload_n 0, 1) := by decide +kernel
theorem dX8_familyOf_11 : decode cX8_familyOf 11 = .ok (.getfield 27, 3) := by decide +kernel
theorem dX8_familyOf_14 : decode cX8_familyOf 14 = .ok (.if_icmp .ge 70, 3) := by decide +kernel
theorem dX8_familyOf_17 : decode cX8_familyOf 17 = .ok (.lload_n 2, 1) := by decide +kernel
theorem dX8_familyOf_18 : decode cX8_familyOf 18 = .ok (.lstore 5, 2) := by decide +kernel
theorem dX8_familyOf_20 : decode cX8_familyOf 20 = .ok (.iconst 0, 1) := by decide +kernel
theorem dX8_familyOf_21 : decode cX8_familyOf 21 = .ok (.istore 7, 2) := by decide +kernel
theorem dX8_familyOf_23 : decode cX8_familyOf 23 = .ok (.iload 7, 2) := by decide +kernel
theorem dX8_familyOf_25 : decode cX8_familyOf 25 = .ok (.aload_n 0, 1) := by decide +kernel
theorem dX8_familyOf_26 : decode cX8_familyOf 26 = .ok (.getfield 27, 3) := by decide +kernel
theorem dX8_familyOf_29 : decode cX8_familyOf 29 = .ok (.if_icmp .ge 39, 3) := by decide +kernel
theorem dX8_familyOf_32 : decode cX8_familyOf 32 = .ok (.aload_n 0, 1) := by decide +kernel
theorem dX8_familyOf_33 : decode cX8_familyOf 33 = .ok (.getfield 11, 3) := by decide +kernel
theorem dX8_familyOf_36 : decode cX8_familyOf 36 = .ok (.iload 7, 2) := by decide +kernel
theorem dX8_familyOf_38 : decode cX8_familyOf 38 = .ok (.aaload, 1) := by decide +kernel
theorem dX8_familyOf_39 : decode cX8_familyOf 39 = .ok (.getfield 104, 3) := by decide +kernel
theorem dX8_familyOf_42 : decode cX8_familyOf 42 = .ok (.lload_n 2, 1) := by decide +kernel
theorem dX8_familyOf_43 : decode cX8_familyOf 43 = .ok (.land, 1) := by decide +kernel
theorem dX8_familyOf_44 : decode cX8_familyOf 44 = .ok (.lconst 0, 1) := by decide +kernel
theorem dX8_familyOf_45 : decode cX8_familyOf 45 = .ok (.lcmp, 1) := by decide +kernel
theorem dX8_familyOf_46 : decode cX8_familyOf 46 = .ok (.ifCond .eq 16, 3) := by decide +kernel
theorem dX8_familyOf_49 : decode cX8_familyOf 49 = .ok (.lload_n 2, 1) := by decide +kernel
theorem dX8_familyOf_50 : decode cX8_familyOf 50 = .ok (.aload_n 0, 1) := by decide +kernel
theorem dX8_familyOf_51 : decode cX8_familyOf 51 = .ok (.getfield 11, 3) := by decide +kernel
theorem dX8_familyOf_54 : decode cX8_familyOf 54 = .ok (.iload 7, 2) := by decide +kernel
theorem dX8_familyOf_56 : decode cX8_familyOf 56 = .ok (.aaload, 1) := by decide +kernel
theorem dX8_familyOf_57 : decode cX8_familyOf 57 = .ok (.invokevirtual 100, 3) := by decide +kernel
theorem dX8_familyOf_60 : decode cX8_familyOf 60 = .ok (.lor, 1) := by decide +kernel
theorem dX8_familyOf_61 : decode cX8_familyOf 61 = .ok (.lstore_n 2, 1) := by decide +kernel
theorem dX8_familyOf_62 : decode cX8_familyOf 62 = .ok (.iinc 7 1, 3) := by decide +kernel
theorem dX8_familyOf_65 : decode cX8_familyOf 65 = .ok (.goto (-42), 3) := by decide +kernel
theorem dX8_familyOf_68 : decode cX8_familyOf 68 = .ok (.lload_n 2, 1) := by decide +kernel
theorem dX8_familyOf_69 : decode cX8_familyOf 69 = .ok (.lload 5, 2) := by decide +kernel
theorem dX8_familyOf_71 : decode cX8_familyOf 71 = .ok (.lcmp, 1) := by decide +kernel
theorem dX8_familyOf_72 : decode cX8_familyOf 72 = .ok (.ifCond .ne 6, 3) := by decide +kernel
theorem dX8_familyOf_75 : decode cX8_familyOf 75 = .ok (.goto 9, 3) := by decide +kernel
theorem dX8_familyOf_78 : decode cX8_familyOf 78 = .ok (.iinc 4 1, 3) := by decide +kernel
theorem dX8_familyOf_81 : decode cX8_familyOf 81 = .ok (.goto (-73), 3) := by decide +kernel
theorem dX8_familyOf_84 : decode cX8_familyOf 84 = .ok (.lload_n 2, 1) := by decide +kernel
theorem dX8_familyOf_85 : decode cX8_familyOf 85 = .ok (.lreturn, 1) := by decide +kernel
theorem dX8_originsOf_0 : decode cX8_originsOf 0 = .ok (.aload_n 1, 1) := by decide +kernel
theorem dX8_originsOf_1 : decode cX8_originsOf 1 = .ok (.invokevirtual 100, 3) := by decide +kernel
theorem dX8_originsOf_4 : decode cX8_originsOf 4 = .ok (.lstore_n 2, 1) := by decide +kernel
theorem dX8_originsOf_5 : decode cX8_originsOf 5 = .ok (.iconst 0, 1) := by decide +kernel
theorem dX8_originsOf_6 : decode cX8_originsOf 6 = .ok (.istore 4, 2) := by decide +kernel
theorem dX8_originsOf_8 : decode cX8_originsOf 8 = .ok (.iload 4, 2) := by decide +kernel
theorem dX8_originsOf_10 : decode cX8_originsOf 10 = .ok (.aload_n 0, 1) := by decide +kernel
theorem dX8_originsOf_11 : decode cX8_originsOf 11 = .ok (.getfield 27, 3) := by decide +kernel
theorem dX8_originsOf_14 : decode cX8_originsOf 14 = .ok (.if_icmp .ge 70, 3) := by decide +kernel
theorem dX8_originsOf_17 : decode cX8_originsOf 17 = .ok (.lload_n 2, 1) := by decide +kernel
theorem dX8_originsOf_18 : decode cX8_originsOf 18 = .ok (.lstore 5, 2) := by decide +kernel
theorem dX8_originsOf_20 : decode cX8_originsOf 20 = .ok (.iconst 0, 1) := by decide +kernel
theorem dX8_originsOf_21 : decode cX8_originsOf 21 = .ok (.istore 7, 2) := by decide +kernel
theorem dX8_originsOf_23 : decode cX8_originsOf 23 = .ok (.iload 7, 2) := by decide +kernel
theorem dX8_originsOf_25 : decode cX8_originsOf 25 = .ok (.aload_n 0, 1) := by decide +kernel
theorem dX8_originsOf_26 : decode cX8_originsOf 26 = .ok (.getfield 27, 3) := by decide +kernel
theorem dX8_originsOf_29 : decode cX8_originsOf 29 = .ok (.if_icmp .ge 39, 3) := by decide +kernel
theorem dX8_originsOf_32 : decode cX8_originsOf 32 = .ok (.aload_n 0, 1) := by decide +kernel
theorem dX8_originsOf_33 : decode cX8_originsOf 33 = .ok (.getfield 11, 3) := by decide +kernel
theorem dX8_originsOf_36 : decode cX8_originsOf 36 = .ok (.iload 7, 2) := by decide +kernel
theorem dX8_originsOf_38 : decode cX8_originsOf 38 = .ok (.aaload, 1) := by decide +kernel
theorem dX8_originsOf_39 : decode cX8_originsOf 39 = .ok (.invokevirtual 100, 3) := by decide +kernel
theorem dX8_originsOf_42 : decode cX8_originsOf 42 = .ok (.lload_n 2, 1) := by decide +kernel
theorem dX8_originsOf_43 : decode cX8_originsOf 43 = .ok (.land, 1) := by decide +kernel
theorem dX8_originsOf_44 : decode cX8_originsOf 44 = .ok (.lconst 0, 1) := by decide +kernel
theorem dX8_originsOf_45 : decode cX8_originsOf 45 = .ok (.lcmp, 1) := by decide +kernel
theorem dX8_originsOf_46 : decode cX8_originsOf 46 = .ok (.ifCond .eq 16, 3) := by decide +kernel
theorem dX8_originsOf_49 : decode cX8_originsOf 49 = .ok (.lload_n 2, 1) := by decide +kernel
theorem dX8_originsOf_50 : decode cX8_originsOf 50 = .ok (.aload_n 0, 1) := by decide +kernel
theorem dX8_originsOf_51 : decode cX8_originsOf 51 = .ok (.getfield 11, 3) := by decide +kernel
theorem dX8_originsOf_54 : decode cX8_originsOf 54 = .ok (.iload 7, 2) := by decide +kernel
theorem dX8_originsOf_56 : decode cX8_originsOf 56 = .ok (.aaload, 1) := by decide +kernel
theorem dX8_originsOf_57 : decode cX8_originsOf 57 = .ok (.getfield 104, 3) := by decide +kernel
theorem dX8_originsOf_60 : decode cX8_originsOf 60 = .ok (.lor, 1) := by decide +kernel
theorem dX8_originsOf_61 : decode cX8_originsOf 61 = .ok (.lstore_n 2, 1) := by decide +kernel
theorem dX8_originsOf_62 : decode cX8_originsOf 62 = .ok (.iinc 7 1, 3) := by decide +kernel
theorem dX8_originsOf_65 : decode cX8_originsOf 65 = .ok (.goto (-42), 3) := by decide +kernel
theorem dX8_originsOf_68 : decode cX8_originsOf 68 = .ok (.lload_n 2, 1) := by decide +kernel
theorem dX8_originsOf_69 : decode cX8_originsOf 69 = .ok (.lload 5, 2) := by decide +kernel
theorem dX8_originsOf_71 : decode cX8_originsOf 71 = .ok (.lcmp, 1) := by decide +kernel
theorem dX8_originsOf_72 : decode cX8_originsOf 72 = .ok (.ifCond .ne 6, 3) := by decide +kernel
theorem dX8_originsOf_75 : decode cX8_originsOf 75 = .ok (.goto 9, 3) := by decide +kernel
theorem dX8_originsOf_78 : decode cX8_originsOf 78 = .ok (.iinc 4 1, 3) := by decide +kernel
theorem dX8_originsOf_81 : decode cX8_originsOf 81 = .ok (.goto (-73), 3) := by decide +kernel
theorem dX8_originsOf_84 : decode cX8_originsOf 84 = .ok (.lconst 0, 1) := by decide +kernel
theorem dX8_originsOf_85 : decode cX8_originsOf 85 = .ok (.lstore 4, 2) := by decide +kernel
theorem dX8_originsOf_87 : decode cX8_originsOf 87 = .ok (.iconst 0, 1) := by decide +kernel
theorem dX8_originsOf_88 : decode cX8_originsOf 88 = .ok (.istore 6, 2) := by decide +kernel
theorem dX8_originsOf_90 : decode cX8_originsOf 90 = .ok (.iload 6, 2) := by decide +kernel
theorem dX8_originsOf_92 : decode cX8_originsOf 92 = .ok (.aload_n 0, 1) := by decide +kernel
theorem dX8_originsOf_93 : decode cX8_originsOf 93 = .ok (.getfield 27, 3) := by decide +kernel
theorem dX8_originsOf_96 : decode cX8_originsOf 96 = .ok (.if_icmp .ge 39, 3) := by decide +kernel
theorem dX8_originsOf_99 : decode cX8_originsOf 99 = .ok (.aload_n 0, 1) := by decide +kernel
theorem dX8_originsOf_100 : decode cX8_originsOf 100 = .ok (.getfield 11, 3) := by decide +kernel
theorem dX8_originsOf_103 : decode cX8_originsOf 103 = .ok (.iload 6, 2) := by decide +kernel
theorem dX8_originsOf_105 : decode cX8_originsOf 105 = .ok (.aaload, 1) := by decide +kernel
theorem dX8_originsOf_106 : decode cX8_originsOf 106 = .ok (.invokevirtual 119, 3) := by decide +kernel
theorem dX8_originsOf_109 : decode cX8_originsOf 109 = .ok (.ifCond .eq 20, 3) := by decide +kernel
theorem dX8_originsOf_112 : decode cX8_originsOf 112 = .ok (.lload 4, 2) := by decide +kernel
theorem dX8_originsOf_114 : decode cX8_originsOf 114 = .ok (.aload_n 0, 1) := by decide +kernel
theorem dX8_originsOf_115 : decode cX8_originsOf 115 = .ok (.getfield 11, 3) := by decide +kernel
theorem dX8_originsOf_118 : decode cX8_originsOf 118 = .ok (.iload 6, 2) := by decide +kernel
theorem dX8_originsOf_120 : decode cX8_originsOf 120 = .ok (.aaload, 1) := by decide +kernel
theorem dX8_originsOf_121 : decode cX8_originsOf 121 = .ok (.invokevirtual 100, 3) := by decide +kernel
theorem dX8_originsOf_124 : decode cX8_originsOf 124 = .ok (.lload_n 2, 1) := by decide +kernel
theorem dX8_originsOf_125 : decode cX8_originsOf 125 = .ok (.land, 1) := by decide +kernel
theorem dX8_originsOf_126 : decode cX8_originsOf 126 = .ok (.lor, 1) := by decide +kernel
theorem dX8_originsOf_127 : decode cX8_originsOf 127 = .ok (.lstore 4, 2) := by decide +kernel
theorem dX8_originsOf_129 : decode cX8_originsOf 129 = .ok (.iinc 6 1, 3) := by decide +kernel
theorem dX8_originsOf_132 : decode cX8_originsOf 132 = .ok (.goto (-42), 3) := by decide +kernel
theorem dX8_originsOf_135 : decode cX8_originsOf 135 = .ok (.lload 4, 2) := by decide +kernel
theorem dX8_originsOf_137 : decode cX8_originsOf 137 = .ok (.lreturn, 1) := by decide +kernel
theorem dX8_cutPromises_0 : decode cX8_cutPromises 0 = .ok (.aload_n 0, 1) := by decide +kernel
theorem dX8_cutPromises_1 : decode cX8_cutPromises 1 = .ok (.getfield 47, 3) := by decide +kernel
theorem dX8_cutPromises_4 : decode cX8_cutPromises 4 = .ok (.iconst 1, 1) := by decide +kernel
theorem dX8_cutPromises_5 : decode cX8_cutPromises 5 = .ok (.isub, 1) := by decide +kernel
theorem dX8_cutPromises_6 : decode cX8_cutPromises 6 = .ok (.istore_n 2, 1) := by decide +kernel
theorem dX8_cutPromises_7 : decode cX8_cutPromises 7 = .ok (.iload_n 2, 1) := by decide +kernel
theorem dX8_cutPromises_8 : decode cX8_cutPromises 8 = .ok (.ifCond .lt 80, 3) := by decide +kernel
theorem dX8_cutPromises_11 : decode cX8_cutPromises 11 = .ok (.aload_n 0, 1) := by decide +kernel
theorem dX8_cutPromises_12 : decode cX8_cutPromises 12 = .ok (.getfield 19, 3) := by decide +kernel
theorem dX8_cutPromises_15 : decode cX8_cutPromises 15 = .ok (.iload_n 2, 1) := by decide +kernel
theorem dX8_cutPromises_16 : decode cX8_cutPromises 16 = .ok (.aaload, 1) := by decide +kernel
theorem dX8_cutPromises_17 : decode cX8_cutPromises 17 = .ok (.astore_n 3, 1) := by decide +kernel
theorem dX8_cutPromises_18 : decode cX8_cutPromises 18 = .ok (.aload_n 1, 1) := by decide +kernel
theorem dX8_cutPromises_19 : decode cX8_cutPromises 19 = .ok (.getfield 123, 3) := by decide +kernel
theorem dX8_cutPromises_22 : decode cX8_cutPromises 22 = .ok (.aload_n 1, 1) := by decide +kernel
theorem dX8_cutPromises_23 : decode cX8_cutPromises 23 = .ok (.getfield 75, 3) := by decide +kernel
theorem dX8_cutPromises_26 : decode cX8_cutPromises 26 = .ok (.isub, 1) := by decide +kernel
theorem dX8_cutPromises_27 : decode cX8_cutPromises 27 = .ok (.istore 4, 2) := by decide +kernel
theorem dX8_cutPromises_29 : decode cX8_cutPromises 29 = .ok (.iload 4, 2) := by decide +kernel
theorem dX8_cutPromises_31 : decode cX8_cutPromises 31 = .ok (.ifCond .le 51, 3) := by decide +kernel
theorem dX8_cutPromises_34 : decode cX8_cutPromises 34 = .ok (.aload_n 3, 1) := by decide +kernel
theorem dX8_cutPromises_35 : decode cX8_cutPromises 35 = .ok (.getfield 126, 3) := by decide +kernel
theorem dX8_cutPromises_38 : decode cX8_cutPromises 38 = .ok (.aload_n 1, 1) := by decide +kernel
theorem dX8_cutPromises_39 : decode cX8_cutPromises 39 = .ok (.if_acmp .ne 43, 3) := by decide +kernel
theorem dX8_cutPromises_42 : decode cX8_cutPromises 42 = .ok (.aload_n 3, 1) := by decide +kernel
theorem dX8_cutPromises_43 : decode cX8_cutPromises 43 = .ok (.getfield 127, 3) := by decide +kernel
theorem dX8_cutPromises_46 : decode cX8_cutPromises 46 = .ok (.ifnonnull 36, 3) := by decide +kernel
theorem dX8_cutPromises_49 : decode cX8_cutPromises 49 = .ok (.aload_n 3, 1) := by decide +kernel
theorem dX8_cutPromises_50 : decode cX8_cutPromises 50 = .ok (.getfield 131, 3) := by decide +kernel
theorem dX8_cutPromises_53 : decode cX8_cutPromises 53 = .ok (.iload 4, 2) := by decide +kernel
theorem dX8_cutPromises_55 : decode cX8_cutPromises 55 = .ok (.invokestatic 91, 3) := by decide +kernel
theorem dX8_cutPromises_58 : decode cX8_cutPromises 58 = .ok (.istore 5, 2) := by decide +kernel
theorem dX8_cutPromises_60 : decode cX8_cutPromises 60 = .ok (.aload_n 3, 1) := by decide +kernel
theorem dX8_cutPromises_61 : decode cX8_cutPromises 61 = .ok (.dup, 1) := by decide +kernel
theorem dX8_cutPromises_62 : decode cX8_cutPromises 62 = .ok (.getfield 131, 3) := by decide +kernel
theorem dX8_cutPromises_65 : decode cX8_cutPromises 65 = .ok (.iload 5, 2) := by decide +kernel
theorem dX8_cutPromises_67 : decode cX8_cutPromises 67 = .ok (.isub, 1) := by decide +kernel
theorem dX8_cutPromises_68 : decode cX8_cutPromises 68 = .ok (.putfield 131, 3) := by decide +kernel
theorem dX8_cutPromises_71 : decode cX8_cutPromises 71 = .ok (.aload_n 1, 1) := by decide +kernel
theorem dX8_cutPromises_72 : decode cX8_cutPromises 72 = .ok (.dup, 1) := by decide +kernel
theorem dX8_cutPromises_73 : decode cX8_cutPromises 73 = .ok (.getfield 123, 3) := by decide +kernel
theorem dX8_cutPromises_76 : decode cX8_cutPromises 76 = .ok (.iload 5, 2) := by decide +kernel
theorem dX8_cutPromises_78 : decode cX8_cutPromises 78 = .ok (.isub, 1) := by decide +kernel
theorem dX8_cutPromises_79 : decode cX8_cutPromises 79 = .ok (.putfield 123, 3) := by decide +kernel
theorem dX8_cutPromises_82 : decode cX8_cutPromises 82 = .ok (.iinc 2 (-1), 3) := by decide +kernel
theorem dX8_cutPromises_85 : decode cX8_cutPromises 85 = .ok (.goto (-78), 3) := by decide +kernel
theorem dX8_cutPromises_88 : decode cX8_cutPromises 88 = .ok (.return_, 1) := by decide +kernel
theorem dX8_costOf_0 : decode cX8_costOf 0 = .ok (.iconst 0, 1) := by decide +kernel
theorem dX8_costOf_1 : decode cX8_costOf 1 = .ok (.istore_n 2, 1) := by decide +kernel
theorem dX8_costOf_2 : decode cX8_costOf 2 = .ok (.iconst 0, 1) := by decide +kernel
theorem dX8_costOf_3 : decode cX8_costOf 3 = .ok (.istore_n 3, 1) := by decide +kernel
theorem dX8_costOf_4 : decode cX8_costOf 4 = .ok (.iload_n 3, 1) := by decide +kernel
theorem dX8_costOf_5 : decode cX8_costOf 5 = .ok (.aload_n 0, 1) := by decide +kernel
theorem dX8_costOf_6 : decode cX8_costOf 6 = .ok (.getfield 27, 3) := by decide +kernel
theorem dX8_costOf_9 : decode cX8_costOf 9 = .ok (.if_icmp .ge 34, 3) := by decide +kernel
theorem dX8_costOf_12 : decode cX8_costOf 12 = .ok (.aload_n 0, 1) := by decide +kernel
theorem dX8_costOf_13 : decode cX8_costOf 13 = .ok (.getfield 11, 3) := by decide +kernel
theorem dX8_costOf_16 : decode cX8_costOf 16 = .ok (.iload_n 3, 1) := by decide +kernel
theorem dX8_costOf_17 : decode cX8_costOf 17 = .ok (.aaload, 1) := by decide +kernel
theorem dX8_costOf_18 : decode cX8_costOf 18 = .ok (.getfield 68, 3) := by decide +kernel
theorem dX8_costOf_21 : decode cX8_costOf 21 = .ok (.iload_n 1, 1) := by decide +kernel
theorem dX8_costOf_22 : decode cX8_costOf 22 = .ok (.if_icmp .ne 15, 3) := by decide +kernel
theorem dX8_costOf_25 : decode cX8_costOf 25 = .ok (.iload_n 2, 1) := by decide +kernel
theorem dX8_costOf_26 : decode cX8_costOf 26 = .ok (.aload_n 0, 1) := by decide +kernel
theorem dX8_costOf_27 : decode cX8_costOf 27 = .ok (.getfield 11, 3) := by decide +kernel
theorem dX8_costOf_30 : decode cX8_costOf 30 = .ok (.iload_n 3, 1) := by decide +kernel
theorem dX8_costOf_31 : decode cX8_costOf 31 = .ok (.aaload, 1) := by decide +kernel
theorem dX8_costOf_32 : decode cX8_costOf 32 = .ok (.getfield 112, 3) := by decide +kernel
theorem dX8_costOf_35 : decode cX8_costOf 35 = .ok (.iadd, 1) := by decide +kernel
theorem dX8_costOf_36 : decode cX8_costOf 36 = .ok (.istore_n 2, 1) := by decide +kernel
theorem dX8_costOf_37 : decode cX8_costOf 37 = .ok (.iinc 3 1, 3) := by decide +kernel
theorem dX8_costOf_40 : decode cX8_costOf 40 = .ok (.goto (-36), 3) := by decide +kernel
theorem dX8_costOf_43 : decode cX8_costOf 43 = .ok (.iload_n 2, 1) := by decide +kernel
theorem dX8_costOf_44 : decode cX8_costOf 44 = .ok (.ireturn, 1) := by decide +kernel
theorem dX9_init_0 : decode cX9_init 0 = .ok (.aload_n 0, 1) := by decide +kernel
theorem dX9_init_1 : decode cX9_init 1 = .ok (.invokespecial 1, 3) := by decide +kernel
theorem dX9_init_4 : decode cX9_init 4 = .ok (.aload_n 0, 1) := by decide +kernel
theorem dX9_init_5 : decode cX9_init 5 = .ok (.bipush 12, 2) := by decide +kernel
theorem dX9_init_7 : decode cX9_init 7 = .ok (.anewarray 9, 3) := by decide +kernel
theorem dX9_init_10 : decode cX9_init 10 = .ok (.putfield 11, 3) := by decide +kernel
theorem dX9_init_13 : decode cX9_init 13 = .ok (.aload_n 0, 1) := by decide +kernel
theorem dX9_init_14 : decode cX9_init 14 = .ok (.new 15, 3) := by decide +kernel
theorem dX9_init_17 : decode cX9_init 17 = .ok (.dup, 1) := by decide +kernel
theorem dX9_init_18 : decode cX9_init 18 = .ok (.invokespecial 17, 3) := by decide +kernel
theorem dX9_init_21 : decode cX9_init 21 = .ok (.putfield 18, 3) := by decide +kernel
theorem dX9_init_24 : decode cX9_init 24 = .ok (.aload_n 0, 1) := by decide +kernel
theorem dX9_init_25 : decode cX9_init 25 = .ok (.aload_n 0, 1) := by decide +kernel
theorem dX9_init_26 : decode cX9_init 26 = .ok (.getfield 18, 3) := by decide +kernel
theorem dX9_init_29 : decode cX9_init 29 = .ok (.getfield 22, 3) := by decide +kernel
theorem dX9_init_32 : decode cX9_init 32 = .ok (.putfield 26, 3) := by decide +kernel
theorem dX9_init_35 : decode cX9_init 35 = .ok (.iconst 0, 1) := by decide +kernel
theorem dX9_init_36 : decode cX9_init 36 = .ok (.istore_n 1, 1) := by decide +kernel
theorem dX9_init_37 : decode cX9_init 37 = .ok (.iload_n 1, 1) := by decide +kernel
theorem dX9_init_38 : decode cX9_init 38 = .ok (.aload_n 0, 1) := by decide +kernel
theorem dX9_init_39 : decode cX9_init 39 = .ok (.getfield 11, 3) := by decide +kernel
theorem dX9_init_42 : decode cX9_init 42 = .ok (.arraylength, 1) := by decide +kernel
theorem dX9_init_43 : decode cX9_init 43 = .ok (.if_icmp .ge 23, 3) := by decide +kernel
theorem dX9_init_46 : decode cX9_init 46 = .ok (.aload_n 0, 1) := by decide +kernel
theorem dX9_init_47 : decode cX9_init 47 = .ok (.getfield 11, 3) := by decide +kernel
theorem dX9_init_50 : decode cX9_init 50 = .ok (.iload_n 1, 1) := by decide +kernel
theorem dX9_init_51 : decode cX9_init 51 = .ok (.new 9, 3) := by decide +kernel
theorem dX9_init_54 : decode cX9_init 54 = .ok (.dup, 1) := by decide +kernel
theorem dX9_init_55 : decode cX9_init 55 = .ok (.iload_n 1, 1) := by decide +kernel
theorem dX9_init_56 : decode cX9_init 56 = .ok (.invokespecial 27, 3) := by decide +kernel
theorem dX9_init_59 : decode cX9_init 59 = .ok (.aastore, 1) := by decide +kernel
theorem dX9_init_60 : decode cX9_init 60 = .ok (.iinc 1 1, 3) := by decide +kernel
theorem dX9_init_63 : decode cX9_init 63 = .ok (.goto (-26), 3) := by decide +kernel
theorem dX9_init_66 : decode cX9_init 66 = .ok (.return_, 1) := by decide +kernel
theorem dX9_setBought_0 : decode cX9_setBought 0 = .ok (.aload_n 0, 1) := by decide +kernel
theorem dX9_setBought_1 : decode cX9_setBought 1 = .ok (.iload_n 1, 1) := by decide +kernel
theorem dX9_setBought_2 : decode cX9_setBought 2 = .ok (.invokevirtual 30, 3) := by decide +kernel
theorem dX9_setBought_5 : decode cX9_setBought 5 = .ok (.astore 4, 2) := by decide +kernel
theorem dX9_setBought_7 : decode cX9_setBought 7 = .ok (.iload_n 2, 1) := by decide +kernel
theorem dX9_setBought_8 : decode cX9_setBought 8 = .ok (.iconst 1, 1) := by decide +kernel
theorem dX9_setBought_9 : decode cX9_setBought 9 = .ok (.bipush 99, 2) := by decide +kernel
theorem dX9_setBought_11 : decode cX9_setBought 11 = .ok (.invokestatic 34, 3) := by decide +kernel
theorem dX9_setBought_14 : decode cX9_setBought 14 = .ok (.iload_n 3, 1) := by decide +kernel
theorem dX9_setBought_15 : decode cX9_setBought 15 = .ok (.iconst 0, 1) := by decide +kernel
theorem dX9_setBought_16 : decode cX9_setBought 16 = .ok (.bipush 30, 2) := by decide +kernel
theorem dX9_setBought_18 : decode cX9_setBought 18 = .ok (.invokestatic 34, 3) := by decide +kernel
theorem dX9_setBought_21 : decode cX9_setBought 21 = .ok (.aload 4, 2) := by decide +kernel
theorem dX9_setBought_23 : decode cX9_setBought 23 = .ok (.getfield 38, 3) := by decide +kernel
theorem dX9_setBought_26 : decode cX9_setBought 26 = .ok (.ifCond .ne 23, 3) := by decide +kernel
theorem dX9_setBought_29 : decode cX9_setBought 29 = .ok (.aload 4, 2) := by decide +kernel
theorem dX9_setBought_31 : decode cX9_setBought 31 = .ok (.getfield 42, 3) := by decide +kernel
theorem dX9_setBought_34 : decode cX9_setBought 34 = .ok (.ifCond .ne 15, 3) := by decide +kernel
theorem dX9_setBought_37 : decode cX9_setBought 37 = .ok (.aload 4, 2) := by decide +kernel
theorem dX9_setBought_39 : decode cX9_setBought 39 = .ok (.getfield 46, 3) := by decide +kernel
theorem dX9_setBought_42 : decode cX9_setBought 42 = .ok (.ifCond .ne 7, 3) := by decide +kernel
theorem dX9_setBought_45 : decode cX9_setBought 45 = .ok (.iconst 1, 1) := by decide +kernel
theorem dX9_setBought_46 : decode cX9_setBought 46 = .ok (.goto 4, 3) := by decide +kernel
theorem dX9_setBought_49 : decode cX9_setBought 49 = .ok (.iconst 0, 1) := by decide +kernel
theorem dX9_setBought_50 : decode cX9_setBought 50 = .ok (.invokestatic 49, 3) := by decide +kernel
theorem dX9_setBought_53 : decode cX9_setBought 53 = .ok (.aload 4, 2) := by decide +kernel
theorem dX9_setBought_55 : decode cX9_setBought 55 = .ok (.iconst 1, 1) := by decide +kernel
theorem dX9_setBought_56 : decode cX9_setBought 56 = .ok (.putfield 53, 3) := by decide +kernel
theorem dX9_setBought_59 : decode cX9_setBought 59 = .ok (.aload 4, 2) := by decide +kernel
theorem dX9_setBought_61 : decode cX9_setBought 61 = .ok (.iload_n 2, 1) := by decide +kernel
theorem dX9_setBought_62 : decode cX9_setBought 62 = .ok (.putfield 56, 3) := by decide +kernel
theorem dX9_setBought_65 : decode cX9_setBought 65 = .ok (.aload 4, 2) := by decide +kernel
theorem dX9_setBought_67 : decode cX9_setBought 67 = .ok (.iload_n 3, 1) := by decide +kernel
theorem dX9_setBought_68 : decode cX9_setBought 68 = .ok (.putfield 59, 3) := by decide +kernel
theorem dX9_setBought_71 : decode cX9_setBought 71 = .ok (.return_, 1) := by decide +kernel
theorem dX9_addLine_0 : decode cX9_addLine 0 = .ok (.aload_n 0, 1) := by decide +kernel
theorem dX9_addLine_1 : decode cX9_addLine 1 = .ok (.iload_n 1, 1) := by decide +kernel
theorem dX9_addLine_2 : decode cX9_addLine 2 = .ok (.invokevirtual 30, 3) := by decide +kernel
theorem dX9_addLine_5 : decode cX9_addLine 5 = .ok (.astore 5, 2) := by decide +kernel
theorem dX9_addLine_7 : decode cX9_addLine 7 = .ok (.aload_n 0, 1) := by decide +kernel
theorem dX9_addLine_8 : decode cX9_addLine 8 = .ok (.iload_n 2, 1) := by decide +kernel
theorem dX9_addLine_9 : decode cX9_addLine 9 = .ok (.invokevirtual 30, 3) := by decide +kernel
theorem dX9_addLine_12 : decode cX9_addLine 12 = .ok (.astore 6, 2) := by decide +kernel
theorem dX9_addLine_14 : decode cX9_addLine 14 = .ok (.aload_n 0, 1) := by decide +kernel
theorem dX9_addLine_15 : decode cX9_addLine 15 = .ok (.iload 4, 2) := by decide +kernel
theorem dX9_addLine_17 : decode cX9_addLine 17 = .ok (.invokevirtual 62, 3) := by decide +kernel
theorem dX9_addLine_20 : decode cX9_addLine 20 = .ok (.astore 7, 2) := by decide +kernel
theorem dX9_addLine_22 : decode cX9_addLine 22 = .ok (.iload_n 2, 1) := by decide +kernel
theorem dX9_addLine_23 : decode cX9_addLine 23 = .ok (.iload_n 1, 1) := by decide +kernel
theorem dX9_addLine_24 : decode cX9_addLine 24 = .ok (.if_icmp .ge 19, 3) := by decide +kernel
theorem dX9_addLine_27 : decode cX9_addLine 27 = .ok (.iload 4, 2) := by decide +kernel
theorem dX9_addLine_29 : decode cX9_addLine 29 = .ok (.iload_n 1, 1) := by decide +kernel
theorem dX9_addLine_30 : decode cX9_addLine 30 = .ok (.if_icmp .ge 13, 3) := by decide +kernel
theorem dX9_addLine_33 : decode cX9_addLine 33 = .ok (.iload_n 2, 1) := by decide +kernel
theorem dX9_addLine_34 : decode cX9_addLine 34 = .ok (.iload 4, 2) := by decide +kernel
theorem dX9_addLine_36 : decode cX9_addLine 36 = .ok (.if_icmp .eq 7, 3) := by decide +kernel
theorem dX9_addLine_39 : decode cX9_addLine 39 = .ok (.iconst 1, 1) := by decide +kernel
theorem dX9_addLine_40 : decode cX9_addLine 40 = .ok (.goto 4, 3) := by decide +kernel
theorem dX9_addLine_43 : decode cX9_addLine 43 = .ok (.iconst 0, 1) := by decide +kernel
theorem dX9_addLine_44 : decode cX9_addLine 44 = .ok (.invokestatic 65, 3) := by decide +kernel
theorem dX9_addLine_47 : decode cX9_addLine 47 = .ok (.iload_n 3, 1) := by decide +kernel
theorem dX9_addLine_48 : decode cX9_addLine 48 = .ok (.iconst 1, 1) := by decide +kernel
theorem dX9_addLine_49 : decode cX9_addLine 49 = .ok (.iconst 3, 1) := by decide +kernel
theorem dX9_addLine_50 : decode cX9_addLine 50 = .ok (.invokestatic 34, 3) := by decide +kernel
theorem dX9_addLine_53 : decode cX9_addLine 53 = .ok (.aload 5, 2) := by decide +kernel
theorem dX9_addLine_55 : decode cX9_addLine 55 = .ok (.invokevirtual 68, 3) := by decide +kernel
theorem dX9_addLine_58 : decode cX9_addLine 58 = .ok (.invokestatic 49, 3) := by decide +kernel
theorem dX9_addLine_61 : decode cX9_addLine 61 = .ok (.aload 5, 2) := by decide +kernel
theorem dX9_addLine_63 : decode cX9_addLine 63 = .ok (.new 72, 3) := by decide +kernel
theorem dX9_addLine_66 : decode cX9_addLine 66 = .ok (.dup, 1) := by decide +kernel
theorem dX9_addLine_67 : decode cX9_addLine 67 = .ok (.aload 6, 2) := by decide +kernel
theorem dX9_addLine_69 : decode cX9_addLine 69 = .ok (.iload_n 3, 1) := by decide +kernel
theorem dX9_addLine_70 : decode cX9_addLine 70 = .ok (.aload 7, 2) := by decide +kernel
theorem dX9_addLine_72 : decode cX9_addLine 72 = .ok (.invokespecial 74, 3) := by decide +kernel
theorem dX9_addLine_75 : decode cX9_addLine 75 = .ok (.invokevirtual 77, 3) := by decide +kernel
theorem dX9_addLine_78 : decode cX9_addLine 78 = .ok (.ireturn, 1) := by decide +kernel
theorem dX9_addOperation_0 : decode cX9_addOperation 0 = .ok (.aload_n 0, 1) := by decide +kernel
theorem dX9_addOperation_1 : decode cX9_addOperation 1 = .ok (.iload_n 1, 1) := by decide +kernel
theorem dX9_addOperation_2 : decode cX9_addOperation 2 = .ok (.invokevirtual 30, 3) := by decide +kernel
theorem dX9_addOperation_5 : decode cX9_addOperation 5 = .ok (.astore 5, 2) := by decide +kernel
theorem dX9_addOperation_7 : decode cX9_addOperation 7 = .ok (.iload_n 2, 1) := by decide +kernel
theorem dX9_addOperation_8 : decode cX9_addOperation 8 = .ok (.iconst 4, 1) := by decide +kernel
theorem dX9_addOperation_9 : decode cX9_addOperation 9 = .ok (.invokestatic 81, 3) := by decide +kernel
theorem dX9_addOperation_12 : decode cX9_addOperation 12 = .ok (.iload_n 3, 1) := by decide +kernel
theorem dX9_addOperation_13 : decode cX9_addOperation 13 = .ok (.iconst 4, 1) := by decide +kernel
theorem dX9_addOperation_14 : decode cX9_addOperation 14 = .ok (.invokestatic 81, 3) := by decide +kernel
theorem dX9_addOperation_17 : decode cX9_addOperation 17 = .ok (.iload 4, 2) := by decide +kernel
theorem dX9_addOperation_19 : decode cX9_addOperation 19 = .ok (.iconst 1, 1) := by decide +kernel
theorem dX9_addOperation_20 : decode cX9_addOperation 20 = .ok (.bipush 9, 2) := by decide +kernel
theorem dX9_addOperation_22 : decode cX9_addOperation 22 = .ok (.invokestatic 34, 3) := by decide +kernel
theorem dX9_addOperation_25 : decode cX9_addOperation 25 = .ok (.aload 5, 2) := by decide +kernel
theorem dX9_addOperation_27 : decode cX9_addOperation 27 = .ok (.invokevirtual 68, 3) := by decide +kernel
theorem dX9_addOperation_30 : decode cX9_addOperation 30 = .ok (.invokestatic 49, 3) := by decide +kernel
theorem dX9_addOperation_33 : decode cX9_addOperation 33 = .ok (.aload 5, 2) := by decide +kernel
theorem dX9_addOperation_35 : decode cX9_addOperation 35 = .ok (.new 85, 3) := by decide +kernel
theorem dX9_addOperation_38 : decode cX9_addOperation 38 = .ok (.dup, 1) := by decide +kernel
theorem dX9_addOperation_39 : decode cX9_addOperation 39 = .ok (.iload_n 2, 1) := by decide +kernel
theorem dX9_addOperation_40 : decode cX9_addOperation 40 = .ok (.iload_n 3, 1) := by decide +kernel
theorem dX9_addOperation_41 : decode cX9_addOperation 41 = .ok (.iload 4, 2) := by decide +kernel
theorem dX9_addOperation_43 : decode cX9_addOperation 43 = .ok (.invokespecial 87, 3) := by decide +kernel
theorem dX9_addOperation_46 : decode cX9_addOperation 46 = .ok (.invokevirtual 89, 3) := by decide +kernel
theorem dX9_addOperation_49 : decode cX9_addOperation 49 = .ok (.ireturn, 1) := by decide +kernel
theorem dX9_setStore_0 : decode cX9_setStore 0 = .ok (.aload_n 0, 1) := by decide +kernel
theorem dX9_setStore_1 : decode cX9_setStore 1 = .ok (.iload_n 1, 1) := by decide +kernel
theorem dX9_setStore_2 : decode cX9_setStore 2 = .ok (.invokevirtual 30, 3) := by decide +kernel
theorem dX9_setStore_5 : decode cX9_setStore 5 = .ok (.astore_n 3, 1) := by decide +kernel
theorem dX9_setStore_6 : decode cX9_setStore 6 = .ok (.iload_n 2, 1) := by decide +kernel
theorem dX9_setStore_7 : decode cX9_setStore 7 = .ok (.iconst 0, 1) := by decide +kernel
theorem dX9_setStore_8 : decode cX9_setStore 8 = .ok (.bipush 99, 2) := by decide +kernel
theorem dX9_setStore_10 : decode cX9_setStore 10 = .ok (.invokestatic 34, 3) := by decide +kernel
theorem dX9_setStore_13 : decode cX9_setStore 13 = .ok (.aload_n 3, 1) := by decide +kernel
theorem dX9_setStore_14 : decode cX9_setStore 14 = .ok (.getfield 93, 3) := by decide +kernel
theorem dX9_setStore_17 : decode cX9_setStore 17 = .ok (.istore 4, 2) := by decide +kernel
theorem dX9_setStore_19 : decode cX9_setStore 19 = .ok (.aload_n 3, 1) := by decide +kernel
theorem dX9_setStore_20 : decode cX9_setStore 20 = .ok (.iload_n 2, 1) := by decide +kernel
theorem dX9_setStore_21 : decode cX9_setStore 21 = .ok (.putfield 93, 3) := by decide +kernel
theorem dX9_setStore_24 : decode cX9_setStore 24 = .ok (.iload 4, 2) := by decide +kernel
theorem dX9_setStore_26 : decode cX9_setStore 26 = .ok (.ireturn, 1) := by decide +kernel
theorem dX9_setQueue_0 : decode cX9_setQueue 0 = .ok (.iload_n 1, 1) := by decide +kernel
theorem dX9_setQueue_1 : decode cX9_setQueue 1 = .ok (.iconst 4, 1) := by decide +kernel
theorem dX9_setQueue_2 : decode cX9_setQueue 2 = .ok (.invokestatic 81, 3) := by decide +kernel
theorem dX9_setQueue_5 : decode cX9_setQueue 5 = .ok (.iload_n 2, 1) := by decide +kernel
theorem dX9_setQueue_6 : decode cX9_setQueue 6 = .ok (.iconst 0, 1) := by decide +kernel
theorem dX9_setQueue_7 : decode cX9_setQueue 7 = .ok (.bipush 60, 2) := by decide +kernel
theorem dX9_setQueue_9 : decode cX9_setQueue 9 = .ok (.invokestatic 34, 3) := by decide +kernel
theorem dX9_setQueue_12 : decode cX9_setQueue 12 = .ok (.aload_n 0, 1) := by decide +kernel
theorem dX9_setQueue_13 : decode cX9_setQueue 13 = .ok (.getfield 26, 3) := by decide +kernel
theorem dX9_setQueue_16 : decode cX9_setQueue 16 = .ok (.getfield 96, 3) := by decide +kernel
theorem dX9_setQueue_19 : decode cX9_setQueue 19 = .ok (.iload_n 1, 1) := by decide +kernel
theorem dX9_setQueue_20 : decode cX9_setQueue 20 = .ok (.iaload, 1) := by decide +kernel
theorem dX9_setQueue_21 : decode cX9_setQueue 21 = .ok (.istore_n 3, 1) := by decide +kernel
theorem dX9_setQueue_22 : decode cX9_setQueue 22 = .ok (.aload_n 0, 1) := by decide +kernel
theorem dX9_setQueue_23 : decode cX9_setQueue 23 = .ok (.getfield 26, 3) := by decide +kernel
theorem dX9_setQueue_26 : decode cX9_setQueue 26 = .ok (.getfield 96, 3) := by decide +kernel
theorem dX9_setQueue_29 : decode cX9_setQueue 29 = .ok (.iload_n 1, 1) := by decide +kernel
theorem dX9_setQueue_30 : decode cX9_setQueue 30 = .ok (.iload_n 2, 1) := by decide +kernel
theorem dX9_setQueue_31 : decode cX9_setQueue 31 = .ok (.iastore, 1) := by decide +kernel
theorem dX9_setQueue_32 : decode cX9_setQueue 32 = .ok (.iload_n 3, 1) := by decide +kernel
theorem dX9_setQueue_33 : decode cX9_setQueue 33 = .ok (.ireturn, 1) := by decide +kernel
theorem dX9_addMachine_0 : decode cX9_addMachine 0 = .ok (.aload_n 0, 1) := by decide +kernel
theorem dX9_addMachine_1 : decode cX9_addMachine 1 = .ok (.iload 6, 2) := by decide +kernel
theorem dX9_addMachine_3 : decode cX9_addMachine 3 = .ok (.invokevirtual 62, 3) := by decide +kernel
theorem dX9_addMachine_6 : decode cX9_addMachine 6 = .ok (.astore 7, 2) := by decide +kernel
theorem dX9_addMachine_8 : decode cX9_addMachine 8 = .ok (.iload_n 1, 1) := by decide +kernel
theorem dX9_addMachine_9 : decode cX9_addMachine 9 = .ok (.iconst 1, 1) := by decide +kernel
theorem dX9_addMachine_10 : decode cX9_addMachine 10 = .ok (.bipush 15, 2) := by decide +kernel
theorem dX9_addMachine_12 : decode cX9_addMachine 12 = .ok (.invokestatic 34, 3) := by decide +kernel
theorem dX9_addMachine_15 : decode cX9_addMachine 15 = .ok (.iload_n 2, 1) := by decide +kernel
theorem dX9_addMachine_16 : decode cX9_addMachine 16 = .ok (.iconst 0, 1) := by decide +kernel
theorem dX9_addMachine_17 : decode cX9_addMachine 17 = .ok (.iconst 5, 1) := by decide +kernel
theorem dX9_addMachine_18 : decode cX9_addMachine 18 = .ok (.invokestatic 34, 3) := by decide +kernel
theorem dX9_addMachine_21 : decode cX9_addMachine 21 = .ok (.iload_n 3, 1) := by decide +kernel
theorem dX9_addMachine_22 : decode cX9_addMachine 22 = .ok (.iconst 0, 1) := by decide +kernel
theorem dX9_addMachine_23 : decode cX9_addMachine 23 = .ok (.bipush 9, 2) := by decide +kernel
theorem dX9_addMachine_25 : decode cX9_addMachine 25 = .ok (.invokestatic 34, 3) := by decide +kernel
theorem dX9_addMachine_28 : decode cX9_addMachine 28 = .ok (.iload 4, 2) := by decide +kernel
theorem dX9_addMachine_30 : decode cX9_addMachine 30 = .ok (.iconst 1, 1) := by decide +kernel
theorem dX9_addMachine_31 : decode cX9_addMachine 31 = .ok (.bipush 50, 2) := by decide +kernel
theorem dX9_addMachine_33 : decode cX9_addMachine 33 = .ok (.invokestatic 34, 3) := by decide +kernel
theorem dX9_addMachine_36 : decode cX9_addMachine 36 = .ok (.iload 5, 2) := by decide +kernel
theorem dX9_addMachine_38 : decode cX9_addMachine 38 = .ok (.iconst 1, 1) := by decide +kernel
theorem dX9_addMachine_39 : decode cX9_addMachine 39 = .ok (.bipush 9, 2) := by decide +kernel
theorem dX9_addMachine_41 : decode cX9_addMachine 41 = .ok (.invokestatic 34, 3) := by decide +kernel
theorem dX9_addMachine_44 : decode cX9_addMachine 44 = .ok (.aload_n 0, 1) := by decide +kernel
theorem dX9_addMachine_45 : decode cX9_addMachine 45 = .ok (.getfield 18, 3) := by decide +kernel
theorem dX9_addMachine_48 : decode cX9_addMachine 48 = .ok (.getfield 102, 3) := by decide +kernel
theorem dX9_addMachine_51 : decode cX9_addMachine 51 = .ok (.istore 8, 2) := by decide +kernel
theorem dX9_addMachine_53 : decode cX9_addMachine 53 = .ok (.aload_n 0, 1) := by decide +kernel
theorem dX9_addMachine_54 : decode cX9_addMachine 54 = .ok (.getfield 18, 3) := by decide +kernel
theorem dX9_addMachine_57 : decode cX9_addMachine 57 = .ok (.new 105, 3) := by decide +kernel
theorem dX9_addMachine_60 : decode cX9_addMachine 60 = .ok (.dup, 1) := by decide +kernel
theorem dX9_addMachine_61 : decode cX9_addMachine 61 = .ok (.iload 8, 2) := by decide +kernel
theorem dX9_addMachine_63 : decode cX9_addMachine 63 = .ok (.iload_n 1, 1) := by decide +kernel
theorem dX9_addMachine_64 : decode cX9_addMachine 64 = .ok (.iload_n 2, 1) := by decide +kernel
theorem dX9_addMachine_65 : decode cX9_addMachine 65 = .ok (.iload_n 3, 1) := by decide +kernel
theorem dX9_addMachine_66 : decode cX9_addMachine 66 = .ok (.iload 4, 2) := by decide +kernel
theorem dX9_addMachine_68 : decode cX9_addMachine 68 = .ok (.iload 5, 2) := by decide +kernel
theorem dX9_addMachine_70 : decode cX9_addMachine 70 = .ok (.aload 7, 2) := by decide +kernel
theorem dX9_addMachine_72 : decode cX9_addMachine 72 = .ok (.invokespecial 107, 3) := by decide +kernel
theorem dX9_addMachine_75 : decode cX9_addMachine 75 = .ok (.invokevirtual 110, 3) := by decide +kernel
theorem dX9_addMachine_78 : decode cX9_addMachine 78 = .ok (.iload 8, 2) := by decide +kernel
theorem dX9_addMachine_80 : decode cX9_addMachine 80 = .ok (.ireturn, 1) := by decide +kernel
theorem dX9_addPerson_0 : decode cX9_addPerson 0 = .ok (.iload_n 1, 1) := by decide +kernel
theorem dX9_addPerson_1 : decode cX9_addPerson 1 = .ok (.iconst 0, 1) := by decide +kernel
theorem dX9_addPerson_2 : decode cX9_addPerson 2 = .ok (.bipush 9, 2) := by decide +kernel
theorem dX9_addPerson_4 : decode cX9_addPerson 4 = .ok (.invokestatic 34, 3) := by decide +kernel
theorem dX9_addPerson_7 : decode cX9_addPerson 7 = .ok (.iload_n 2, 1) := by decide +kernel
theorem dX9_addPerson_8 : decode cX9_addPerson 8 = .ok (.iconst 0, 1) := by decide +kernel
theorem dX9_addPerson_9 : decode cX9_addPerson 9 = .ok (.bipush 23, 2) := by decide +kernel
theorem dX9_addPerson_11 : decode cX9_addPerson 11 = .ok (.invokestatic 34, 3) := by decide +kernel
theorem dX9_addPerson_14 : decode cX9_addPerson 14 = .ok (.iload_n 3, 1) := by decide +kernel
theorem dX9_addPerson_15 : decode cX9_addPerson 15 = .ok (.iconst 1, 1) := by decide +kernel
theorem dX9_addPerson_16 : decode cX9_addPerson 16 = .ok (.bipush 24, 2) := by decide +kernel
theorem dX9_addPerson_18 : decode cX9_addPerson 18 = .ok (.invokestatic 34, 3) := by decide +kernel
theorem dX9_addPerson_21 : decode cX9_addPerson 21 = .ok (.aload_n 0, 1) := by decide +kernel
theorem dX9_addPerson_22 : decode cX9_addPerson 22 = .ok (.getfield 18, 3) := by decide +kernel
theorem dX9_addPerson_25 : decode cX9_addPerson 25 = .ok (.getfield 114, 3) := by decide +kernel
theorem dX9_addPerson_28 : decode cX9_addPerson 28 = .ok (.istore 4, 2) := by decide +kernel
theorem dX9_addPerson_30 : decode cX9_addPerson 30 = .ok (.aload_n 0, 1) := by decide +kernel
theorem dX9_addPerson_31 : decode cX9_addPerson 31 = .ok (.getfield 18, 3) := by decide +kernel
theorem dX9_addPerson_34 : decode cX9_addPerson 34 = .ok (.new 117, 3) := by decide +kernel
theorem dX9_addPerson_37 : decode cX9_addPerson 37 = .ok (.dup, 1) := by decide +kernel
theorem dX9_addPerson_38 : decode cX9_addPerson 38 = .ok (.iload 4, 2) := by decide +kernel
theorem dX9_addPerson_40 : decode cX9_addPerson 40 = .ok (.iload_n 1, 1) := by decide +kernel
theorem dX9_addPerson_41 : decode cX9_addPerson 41 = .ok (.iload_n 2, 1) := by decide +kernel
theorem dX9_addPerson_42 : decode cX9_addPerson 42 = .ok (.iload_n 3, 1) := by decide +kernel
theorem dX9_addPerson_43 : decode cX9_addPerson 43 = .ok (.invokespecial 119, 3) := by decide +kernel
theorem dX9_addPerson_46 : decode cX9_addPerson 46 = .ok (.invokevirtual 122, 3) := by decide +kernel
theorem dX9_addPerson_49 : decode cX9_addPerson 49 = .ok (.iload 4, 2) := by decide +kernel
theorem dX9_addPerson_51 : decode cX9_addPerson 51 = .ok (.ireturn, 1) := by decide +kernel
theorem dX9_setLevel_0 : decode cX9_setLevel 0 = .ok (.aload_n 0, 1) := by decide +kernel
theorem dX9_setLevel_1 : decode cX9_setLevel 1 = .ok (.iload_n 1, 1) := by decide +kernel
theorem dX9_setLevel_2 : decode cX9_setLevel 2 = .ok (.invokevirtual 126, 3) := by decide +kernel
theorem dX9_setLevel_5 : decode cX9_setLevel 5 = .ok (.astore 4, 2) := by decide +kernel
theorem dX9_setLevel_7 : decode cX9_setLevel 7 = .ok (.iload_n 2, 1) := by decide +kernel
theorem dX9_setLevel_8 : decode cX9_setLevel 8 = .ok (.iconst 4, 1) := by decide +kernel
theorem dX9_setLevel_9 : decode cX9_setLevel 9 = .ok (.invokestatic 81, 3) := by decide +kernel
theorem dX9_setLevel_12 : decode cX9_setLevel 12 = .ok (.iload_n 3, 1) := by decide +kernel
theorem dX9_setLevel_13 : decode cX9_setLevel 13 = .ok (.iconst 0, 1) := by decide +kernel
theorem dX9_setLevel_14 : decode cX9_setLevel 14 = .ok (.iconst 3, 1) := by decide +kernel
theorem dX9_setLevel_15 : decode cX9_setLevel 15 = .ok (.invokestatic 34, 3) := by decide +kernel
theorem dX9_setLevel_18 : decode cX9_setLevel 18 = .ok (.aload 4, 2) := by decide +kernel
theorem dX9_setLevel_20 : decode cX9_setLevel 20 = .ok (.getfield 130, 3) := by decide +kernel
theorem dX9_setLevel_23 : decode cX9_setLevel 23 = .ok (.iload_n 2, 1) := by decide +kernel
theorem dX9_setLevel_24 : decode cX9_setLevel 24 = .ok (.iaload, 1) := by decide +kernel
theorem dX9_setLevel_25 : decode cX9_setLevel 25 = .ok (.istore 5, 2) := by decide +kernel
theorem dX9_setLevel_27 : decode cX9_setLevel 27 = .ok (.aload 4, 2) := by decide +kernel
theorem dX9_setLevel_29 : decode cX9_setLevel 29 = .ok (.iload_n 2, 1) := by decide +kernel
theorem dX9_setLevel_30 : decode cX9_setLevel 30 = .ok (.iload_n 3, 1) := by decide +kernel
theorem dX9_setLevel_31 : decode cX9_setLevel 31 = .ok (.invokevirtual 133, 3) := by decide +kernel
theorem dX9_setLevel_34 : decode cX9_setLevel 34 = .ok (.iload 5, 2) := by decide +kernel
theorem dX9_setLevel_36 : decode cX9_setLevel 36 = .ok (.ireturn, 1) := by decide +kernel
theorem dX9_buy_0 : decode cX9_buy 0 = .ok (.aload_n 0, 1) := by decide +kernel
theorem dX9_buy_1 : decode cX9_buy 1 = .ok (.iload_n 1, 1) := by decide +kernel
theorem dX9_buy_2 : decode cX9_buy 2 = .ok (.invokevirtual 30, 3) := by decide +kernel
theorem dX9_buy_5 : decode cX9_buy 5 = .ok (.astore_n 3, 1) := by decide +kernel
theorem dX9_buy_6 : decode cX9_buy 6 = .ok (.iload_n 2, 1) := by decide +kernel
theorem dX9_buy_7 : decode cX9_buy 7 = .ok (.iconst 1, 1) := by decide +kernel
theorem dX9_buy_8 : decode cX9_buy 8 = .ok (.bipush 20, 2) := by decide +kernel
theorem dX9_buy_10 : decode cX9_buy 10 = .ok (.invokestatic 34, 3) := by decide +kernel
theorem dX9_buy_13 : decode cX9_buy 13 = .ok (.aload_n 3, 1) := by decide +kernel
theorem dX9_buy_14 : decode cX9_buy 14 = .ok (.getfield 53, 3) := by decide +kernel
theorem dX9_buy_17 : decode cX9_buy 17 = .ok (.invokestatic 49, 3) := by decide +kernel
theorem dX9_buy_20 : decode cX9_buy 20 = .ok (.aload_n 0, 1) := by decide +kernel
theorem dX9_buy_21 : decode cX9_buy 21 = .ok (.getfield 26, 3) := by decide +kernel
theorem dX9_buy_24 : decode cX9_buy 24 = .ok (.aload_n 3, 1) := by decide +kernel
theorem dX9_buy_25 : decode cX9_buy 25 = .ok (.iload_n 2, 1) := by decide +kernel
theorem dX9_buy_26 : decode cX9_buy 26 = .ok (.iconst 0, 1) := by decide +kernel
theorem dX9_buy_27 : decode cX9_buy 27 = .ok (.invokevirtual 136, 3) := by decide +kernel
theorem dX9_buy_30 : decode cX9_buy 30 = .ok (.astore 4, 2) := by decide +kernel
theorem dX9_buy_32 : decode cX9_buy 32 = .ok (.aload 4, 2) := by decide +kernel
theorem dX9_buy_34 : decode cX9_buy 34 = .ok (.aload_n 3, 1) := by decide +kernel
theorem dX9_buy_35 : decode cX9_buy 35 = .ok (.getfield 56, 3) := by decide +kernel
theorem dX9_buy_38 : decode cX9_buy 38 = .ok (.iload_n 2, 1) := by decide +kernel
theorem dX9_buy_39 : decode cX9_buy 39 = .ok (.imul, 1) := by decide +kernel
theorem dX9_buy_40 : decode cX9_buy 40 = .ok (.putfield 140, 3) := by decide +kernel
theorem dX9_buy_43 : decode cX9_buy 43 = .ok (.aload 4, 2) := by decide +kernel
theorem dX9_buy_45 : decode cX9_buy 45 = .ok (.aload_n 0, 1) := by decide +kernel
theorem dX9_buy_46 : decode cX9_buy 46 = .ok (.getfield 145, 3) := by decide +kernel
theorem dX9_buy_49 : decode cX9_buy 49 = .ok (.aload_n 3, 1) := by decide +kernel
theorem dX9_buy_50 : decode cX9_buy 50 = .ok (.getfield 59, 3) := by decide +kernel
theorem dX9_buy_53 : decode cX9_buy 53 = .ok (.iadd, 1) := by decide +kernel
theorem dX9_buy_54 : decode cX9_buy 54 = .ok (.putfield 148, 3) := by decide +kernel
theorem dX9_buy_57 : decode cX9_buy 57 = .ok (.aload_n 0, 1) := by decide +kernel
theorem dX9_buy_58 : decode cX9_buy 58 = .ok (.dup, 1) := by decide +kernel
theorem dX9_buy_59 : decode cX9_buy 59 = .ok (.getfield 151, 3) := by decide +kernel
theorem dX9_buy_62 : decode cX9_buy 62 = .ok (.aload 4, 2) := by decide +kernel
theorem dX9_buy_64 : decode cX9_buy 64 = .ok (.getfield 140, 3) := by decide +kernel
theorem dX9_buy_67 : decode cX9_buy 67 = .ok (.iadd, 1) := by decide +kernel
theorem dX9_buy_68 : decode cX9_buy 68 = .ok (.putfield 151, 3) := by decide +kernel
theorem dX9_buy_71 : decode cX9_buy 71 = .ok (.aload 4, 2) := by decide +kernel
theorem dX9_buy_73 : decode cX9_buy 73 = .ok (.getfield 154, 3) := by decide +kernel
theorem dX9_buy_76 : decode cX9_buy 76 = .ok (.ireturn, 1) := by decide +kernel
theorem dX9_late_0 : decode cX9_late 0 = .ok (.aload_n 0, 1) := by decide +kernel
theorem dX9_late_1 : decode cX9_late 1 = .ok (.iload_n 1, 1) := by decide +kernel
theorem dX9_late_2 : decode cX9_late 2 = .ok (.invokevirtual 157, 3) := by decide +kernel
theorem dX9_late_5 : decode cX9_late 5 = .ok (.astore_n 3, 1) := by decide +kernel
theorem dX9_late_6 : decode cX9_late 6 = .ok (.iload_n 2, 1) := by decide +kernel
theorem dX9_late_7 : decode cX9_late 7 = .ok (.iconst 1, 1) := by decide +kernel
theorem dX9_late_8 : decode cX9_late 8 = .ok (.bipush 30, 2) := by decide +kernel
theorem dX9_late_10 : decode cX9_late 10 = .ok (.invokestatic 34, 3) := by decide +kernel
theorem dX9_late_13 : decode cX9_late 13 = .ok (.aload_n 3, 1) := by decide +kernel
theorem dX9_late_14 : decode cX9_late 14 = .ok (.getfield 161, 3) := by decide +kernel
theorem dX9_late_17 : decode cX9_late 17 = .ok (.ifCond .ne 7, 3) := by decide +kernel
theorem dX9_late_20 : decode cX9_late 20 = .ok (.iconst 1, 1) := by decide +kernel
theorem dX9_late_21 : decode cX9_late 21 = .ok (.goto 4, 3) := by decide +kernel
theorem dX9_late_24 : decode cX9_late 24 = .ok (.iconst 0, 1) := by decide +kernel
theorem dX9_late_25 : decode cX9_late 25 = .ok (.invokestatic 49, 3) := by decide +kernel
theorem dX9_late_28 : decode cX9_late 28 = .ok (.aload_n 3, 1) := by decide +kernel
theorem dX9_late_29 : decode cX9_late 29 = .ok (.dup, 1) := by decide +kernel
theorem dX9_late_30 : decode cX9_late 30 = .ok (.getfield 148, 3) := by decide +kernel
theorem dX9_late_33 : decode cX9_late 33 = .ok (.iload_n 2, 1) := by decide +kernel
theorem dX9_late_34 : decode cX9_late 34 = .ok (.iadd, 1) := by decide +kernel
theorem dX9_late_35 : decode cX9_late 35 = .ok (.putfield 148, 3) := by decide +kernel
theorem dX9_late_38 : decode cX9_late 38 = .ok (.aload_n 3, 1) := by decide +kernel
theorem dX9_late_39 : decode cX9_late 39 = .ok (.getfield 148, 3) := by decide +kernel
theorem dX9_late_42 : decode cX9_late 42 = .ok (.ireturn, 1) := by decide +kernel
theorem dX9_make_0 : decode cX9_make 0 = .ok (.aload_n 0, 1) := by decide +kernel
theorem dX9_make_1 : decode cX9_make 1 = .ok (.iload_n 1, 1) := by decide +kernel
theorem dX9_make_2 : decode cX9_make 2 = .ok (.invokevirtual 30, 3) := by decide +kernel
theorem dX9_make_5 : decode cX9_make 5 = .ok (.astore 4, 2) := by decide +kernel
theorem dX9_make_7 : decode cX9_make 7 = .ok (.iload_n 2, 1) := by decide +kernel
theorem dX9_make_8 : decode cX9_make 8 = .ok (.iconst 1, 1) := by decide +kernel
theorem dX9_make_9 : decode cX9_make 9 = .ok (.bipush 20, 2) := by decide +kernel
theorem dX9_make_11 : decode cX9_make 11 = .ok (.invokestatic 34, 3) := by decide +kernel
theorem dX9_make_14 : decode cX9_make 14 = .ok (.iload_n 3, 1) := by decide +kernel
theorem dX9_make_15 : decode cX9_make 15 = .ok (.iconst 0, 1) := by decide +kernel
theorem dX9_make_16 : decode cX9_make 16 = .ok (.bipush 9, 2) := by decide +kernel
theorem dX9_make_18 : decode cX9_make 18 = .ok (.invokestatic 34, 3) := by decide +kernel
theorem dX9_make_21 : decode cX9_make 21 = .ok (.aload 4, 2) := by decide +kernel
theorem dX9_make_23 : decode cX9_make 23 = .ok (.getfield 46, 3) := by decide +kernel
theorem dX9_make_26 : decode cX9_make 26 = .ok (.ifCond .le 7, 3) := by decide +kernel
theorem dX9_make_29 : decode cX9_make 29 = .ok (.iconst 1, 1) := by decide +kernel
theorem dX9_make_30 : decode cX9_make 30 = .ok (.goto 4, 3) := by decide +kernel
theorem dX9_make_33 : decode cX9_make 33 = .ok (.iconst 0, 1) := by decide +kernel
theorem dX9_make_34 : decode cX9_make 34 = .ok (.invokestatic 49, 3) := by decide +kernel
theorem dX9_make_37 : decode cX9_make 37 = .ok (.aload_n 0, 1) := by decide +kernel
theorem dX9_make_38 : decode cX9_make 38 = .ok (.getfield 26, 3) := by decide +kernel
theorem dX9_make_41 : decode cX9_make 41 = .ok (.aload 4, 2) := by decide +kernel
theorem dX9_make_43 : decode cX9_make 43 = .ok (.iconst 0, 1) := by decide +kernel
theorem dX9_make_44 : decode cX9_make 44 = .ok (.invokevirtual 164, 3) := by decide +kernel
theorem dX9_make_47 : decode cX9_make 47 = .ok (.invokevirtual 168, 3) := by decide +kernel
theorem dX9_make_50 : decode cX9_make 50 = .ok (.invokestatic 49, 3) := by decide +kernel
theorem dX9_make_53 : decode cX9_make 53 = .ok (.aload_n 0, 1) := by decide +kernel
theorem dX9_make_54 : decode cX9_make 54 = .ok (.getfield 26, 3) := by decide +kernel
theorem dX9_make_57 : decode cX9_make 57 = .ok (.aload 4, 2) := by decide +kernel
theorem dX9_make_59 : decode cX9_make 59 = .ok (.iload_n 2, 1) := by decide +kernel
theorem dX9_make_60 : decode cX9_make 60 = .ok (.iconst 1, 1) := by decide +kernel
theorem dX9_make_61 : decode cX9_make 61 = .ok (.invokevirtual 136, 3) := by decide +kernel
theorem dX9_make_64 : decode cX9_make 64 = .ok (.astore 5, 2) := by decide +kernel
theorem dX9_make_66 : decode cX9_make 66 = .ok (.aload 5, 2) := by decide +kernel
theorem dX9_make_68 : decode cX9_make 68 = .ok (.iload_n 3, 1) := by decide +kernel
theorem dX9_make_69 : decode cX9_make 69 = .ok (.putfield 172, 3) := by decide +kernel
theorem dX9_make_72 : decode cX9_make 72 = .ok (.aload 5, 2) := by decide +kernel
theorem dX9_make_74 : decode cX9_make 74 = .ok (.getfield 154, 3) := by decide +kernel
theorem dX9_make_77 : decode cX9_make 77 = .ok (.ireturn, 1) := by decide +kernel
theorem dX9_rank_0 : decode cX9_rank 0 = .ok (.aload_n 0, 1) := by decide +kernel
theorem dX9_rank_1 : decode cX9_rank 1 = .ok (.iload_n 1, 1) := by decide +kernel
theorem dX9_rank_2 : decode cX9_rank 2 = .ok (.invokevirtual 157, 3) := by decide +kernel
theorem dX9_rank_5 : decode cX9_rank 5 = .ok (.astore 4, 2) := by decide +kernel
theorem dX9_rank_7 : decode cX9_rank 7 = .ok (.iload_n 2, 1) := by decide +kernel
theorem dX9_rank_8 : decode cX9_rank 8 = .ok (.iconst 0, 1) := by decide +kernel
theorem dX9_rank_9 : decode cX9_rank 9 = .ok (.bipush 9, 2) := by decide +kernel
theorem dX9_rank_11 : decode cX9_rank 11 = .ok (.invokestatic 34, 3) := by decide +kernel
theorem dX9_rank_14 : decode cX9_rank 14 = .ok (.aload 4, 2) := by decide +kernel
theorem dX9_rank_16 : decode cX9_rank 16 = .ok (.getfield 161, 3) := by decide +kernel
theorem dX9_rank_19 : decode cX9_rank 19 = .ok (.iconst 1, 1) := by decide +kernel
theorem dX9_rank_20 : decode cX9_rank 20 = .ok (.if_icmp .ne 7, 3) := by decide +kernel
theorem dX9_rank_23 : decode cX9_rank 23 = .ok (.iconst 1, 1) := by decide +kernel
theorem dX9_rank_24 : decode cX9_rank 24 = .ok (.goto 4, 3) := by decide +kernel
theorem dX9_rank_27 : decode cX9_rank 27 = .ok (.iconst 0, 1) := by decide +kernel
theorem dX9_rank_28 : decode cX9_rank 28 = .ok (.invokestatic 49, 3) := by decide +kernel
theorem dX9_rank_31 : decode cX9_rank 31 = .ok (.aload 4, 2) := by decide +kernel
theorem dX9_rank_33 : decode cX9_rank 33 = .ok (.getfield 175, 3) := by decide +kernel
theorem dX9_rank_36 : decode cX9_rank 36 = .ok (.istore 5, 2) := by decide +kernel
theorem dX9_rank_38 : decode cX9_rank 38 = .ok (.aload 4, 2) := by decide +kernel
theorem dX9_rank_40 : decode cX9_rank 40 = .ok (.iload_n 2, 1) := by decide +kernel
theorem dX9_rank_41 : decode cX9_rank 41 = .ok (.putfield 172, 3) := by decide +kernel
theorem dX9_rank_44 : decode cX9_rank 44 = .ok (.aload 4, 2) := by decide +kernel
theorem dX9_rank_46 : decode cX9_rank 46 = .ok (.iload_n 3, 1) := by decide +kernel
theorem dX9_rank_47 : decode cX9_rank 47 = .ok (.putfield 175, 3) := by decide +kernel
theorem dX9_rank_50 : decode cX9_rank 50 = .ok (.iload 5, 2) := by decide +kernel
theorem dX9_rank_52 : decode cX9_rank 52 = .ok (.ireturn, 1) := by decide +kernel
theorem dX9_split_0 : decode cX9_split 0 = .ok (.aload_n 0, 1) := by decide +kernel
theorem dX9_split_1 : decode cX9_split 1 = .ok (.iload_n 1, 1) := by decide +kernel
theorem dX9_split_2 : decode cX9_split 2 = .ok (.invokevirtual 157, 3) := by decide +kernel
theorem dX9_split_5 : decode cX9_split 5 = .ok (.astore_n 3, 1) := by decide +kernel
theorem dX9_split_6 : decode cX9_split 6 = .ok (.iload_n 2, 1) := by decide +kernel
theorem dX9_split_7 : decode cX9_split 7 = .ok (.iconst 1, 1) := by decide +kernel
theorem dX9_split_8 : decode cX9_split 8 = .ok (.if_icmp .lt 15, 3) := by decide +kernel
theorem dX9_split_11 : decode cX9_split 11 = .ok (.iload_n 2, 1) := by decide +kernel
theorem dX9_split_12 : decode cX9_split 12 = .ok (.aload_n 3, 1) := by decide +kernel
theorem dX9_split_13 : decode cX9_split 13 = .ok (.getfield 178, 3) := by decide +kernel
theorem dX9_split_16 : decode cX9_split 16 = .ok (.if_icmp .ge 7, 3) := by decide +kernel
theorem dX9_split_19 : decode cX9_split 19 = .ok (.iconst 1, 1) := by decide +kernel
theorem dX9_split_20 : decode cX9_split 20 = .ok (.goto 4, 3) := by decide +kernel
theorem dX9_split_23 : decode cX9_split 23 = .ok (.iconst 0, 1) := by decide +kernel
theorem dX9_split_24 : decode cX9_split 24 = .ok (.invokestatic 65, 3) := by decide +kernel
theorem dX9_split_27 : decode cX9_split 27 = .ok (.aload_n 3, 1) := by decide +kernel
theorem dX9_split_28 : decode cX9_split 28 = .ok (.getfield 161, 3) := by decide +kernel
theorem dX9_split_31 : decode cX9_split 31 = .ok (.iconst 1, 1) := by decide +kernel
theorem dX9_split_32 : decode cX9_split 32 = .ok (.if_icmp .ne 14, 3) := by decide +kernel
theorem dX9_split_35 : decode cX9_split 35 = .ok (.aload_n 3, 1) := by decide +kernel
theorem dX9_split_36 : decode cX9_split 36 = .ok (.getfield 175, 3) := by decide +kernel
theorem dX9_split_39 : decode cX9_split 39 = .ok (.ifCond .ne 7, 3) := by decide +kernel
theorem dX9_split_42 : decode cX9_split 42 = .ok (.iconst 1, 1) := by decide +kernel
theorem dX9_split_43 : decode cX9_split 43 = .ok (.goto 4, 3) := by decide +kernel
theorem dX9_split_46 : decode cX9_split 46 = .ok (.iconst 0, 1) := by decide +kernel
theorem dX9_split_47 : decode cX9_split 47 = .ok (.invokestatic 49, 3) := by decide +kernel
theorem dX9_split_50 : decode cX9_split 50 = .ok (.aload_n 0, 1) := by decide +kernel
theorem dX9_split_51 : decode cX9_split 51 = .ok (.getfield 26, 3) := by decide +kernel
theorem dX9_split_54 : decode cX9_split 54 = .ok (.aload_n 3, 1) := by decide +kernel
theorem dX9_split_55 : decode cX9_split 55 = .ok (.invokevirtual 181, 3) := by decide +kernel
theorem dX9_split_58 : decode cX9_split 58 = .ok (.invokevirtual 168, 3) := by decide +kernel
theorem dX9_split_61 : decode cX9_split 61 = .ok (.invokestatic 49, 3) := by decide +kernel
theorem dX9_split_64 : decode cX9_split 64 = .ok (.aload_n 0, 1) := by decide +kernel
theorem dX9_split_65 : decode cX9_split 65 = .ok (.getfield 26, 3) := by decide +kernel
theorem dX9_split_68 : decode cX9_split 68 = .ok (.aload_n 3, 1) := by decide +kernel
theorem dX9_split_69 : decode cX9_split 69 = .ok (.getfield 185, 3) := by decide +kernel
theorem dX9_split_72 : decode cX9_split 72 = .ok (.iload_n 2, 1) := by decide +kernel
theorem dX9_split_73 : decode cX9_split 73 = .ok (.iconst 1, 1) := by decide +kernel
theorem dX9_split_74 : decode cX9_split 74 = .ok (.invokevirtual 136, 3) := by decide +kernel
theorem dX9_split_77 : decode cX9_split 77 = .ok (.astore 4, 2) := by decide +kernel
theorem dX9_split_79 : decode cX9_split 79 = .ok (.aload 4, 2) := by decide +kernel
theorem dX9_split_81 : decode cX9_split 81 = .ok (.aload_n 3, 1) := by decide +kernel
theorem dX9_split_82 : decode cX9_split 82 = .ok (.getfield 189, 3) := by decide +kernel
theorem dX9_split_85 : decode cX9_split 85 = .ok (.putfield 189, 3) := by decide +kernel
theorem dX9_split_88 : decode cX9_split 88 = .ok (.aload 4, 2) := by decide +kernel
theorem dX9_split_90 : decode cX9_split 90 = .ok (.aload_n 3, 1) := by decide +kernel
theorem dX9_split_91 : decode cX9_split 91 = .ok (.getfield 172, 3) := by decide +kernel
theorem dX9_split_94 : decode cX9_split 94 = .ok (.putfield 172, 3) := by decide +kernel
theorem dX9_split_97 : decode cX9_split 97 = .ok (.aload 4, 2) := by decide +kernel
theorem dX9_split_99 : decode cX9_split 99 = .ok (.aload_n 3, 1) := by decide +kernel
theorem dX9_split_100 : decode cX9_split 100 = .ok (.getfield 192, 3) := by decide +kernel
theorem dX9_split_103 : decode cX9_split 103 = .ok (.putfield 192, 3) := by decide +kernel
theorem dX9_split_106 : decode cX9_split 106 = .ok (.aload 4, 2) := by decide +kernel
theorem dX9_split_108 : decode cX9_split 108 = .ok (.aload_n 3, 1) := by decide +kernel
theorem dX9_split_109 : decode cX9_split 109 = .ok (.getfield 195, 3) := by decide +kernel
theorem dX9_split_112 : decode cX9_split 112 = .ok (.putfield 195, 3) := by decide +kernel
theorem dX9_split_115 : decode cX9_split 115 = .ok (.aload 4, 2) := by decide +kernel
theorem dX9_split_117 : decode cX9_split 117 = .ok (.aload_n 3, 1) := by decide +kernel
theorem dX9_split_118 : decode cX9_split 118 = .ok (.invokevirtual 198, 3) := by decide +kernel
theorem dX9_split_121 : decode cX9_split 121 = .ok (.putfield 202, 3) := by decide +kernel
theorem dX9_split_124 : decode cX9_split 124 = .ok (.aload 4, 2) := by decide +kernel
theorem dX9_split_126 : decode cX9_split 126 = .ok (.aload_n 3, 1) := by decide +kernel
theorem dX9_split_127 : decode cX9_split 127 = .ok (.iload_n 2, 1) := by decide +kernel
theorem dX9_split_128 : decode cX9_split 128 = .ok (.invokevirtual 206, 3) := by decide +kernel
theorem dX9_split_131 : decode cX9_split 131 = .ok (.putfield 140, 3) := by decide +kernel
theorem dX9_split_134 : decode cX9_split 134 = .ok (.aload 4, 2) := by decide +kernel
theorem dX9_split_136 : decode cX9_split 136 = .ok (.getfield 154, 3) := by decide +kernel
theorem dX9_split_139 : decode cX9_split 139 = .ok (.ireturn, 1) := by decide +kernel
theorem dX9_join_0 : decode cX9_join 0 = .ok (.aload_n 0, 1) := by decide +kernel
theorem dX9_join_1 : decode cX9_join 1 = .ok (.iload_n 1, 1) := by decide +kernel
theorem dX9_join_2 : decode cX9_join 2 = .ok (.invokevirtual 157, 3) := by decide +kernel
theorem dX9_join_5 : decode cX9_join 5 = .ok (.astore_n 3, 1) := by decide +kernel
theorem dX9_join_6 : decode cX9_join 6 = .ok (.aload_n 0, 1) := by decide +kernel
theorem dX9_join_7 : decode cX9_join 7 = .ok (.iload_n 2, 1) := by decide +kernel
theorem dX9_join_8 : decode cX9_join 8 = .ok (.invokevirtual 157, 3) := by decide +kernel
theorem dX9_join_11 : decode cX9_join 11 = .ok (.astore 4, 2) := by decide +kernel
theorem dX9_join_13 : decode cX9_join 13 = .ok (.aload_n 3, 1) := by decide +kernel
theorem dX9_join_14 : decode cX9_join 14 = .ok (.aload 4, 2) := by decide +kernel
theorem dX9_join_16 : decode cX9_join 16 = .ok (.if_acmp .eq 7, 3) := by decide +kernel
theorem dX9_join_19 : decode cX9_join 19 = .ok (.iconst 1, 1) := by decide +kernel
theorem dX9_join_20 : decode cX9_join 20 = .ok (.goto 4, 3) := by decide +kernel
theorem dX9_join_23 : decode cX9_join 23 = .ok (.iconst 0, 1) := by decide +kernel
theorem dX9_join_24 : decode cX9_join 24 = .ok (.invokestatic 65, 3) := by decide +kernel
theorem dX9_join_27 : decode cX9_join 27 = .ok (.aload_n 3, 1) := by decide +kernel
theorem dX9_join_28 : decode cX9_join 28 = .ok (.aload 4, 2) := by decide +kernel
theorem dX9_join_30 : decode cX9_join 30 = .ok (.invokevirtual 210, 3) := by decide +kernel
theorem dX9_join_33 : decode cX9_join 33 = .ok (.invokestatic 49, 3) := by decide +kernel
theorem dX9_join_36 : decode cX9_join 36 = .ok (.aload_n 0, 1) := by decide +kernel
theorem dX9_join_37 : decode cX9_join 37 = .ok (.getfield 26, 3) := by decide +kernel
theorem dX9_join_40 : decode cX9_join 40 = .ok (.aload_n 3, 1) := by decide +kernel
theorem dX9_join_41 : decode cX9_join 41 = .ok (.getfield 185, 3) := by decide +kernel
theorem dX9_join_44 : decode cX9_join 44 = .ok (.aload_n 3, 1) := by decide +kernel
theorem dX9_join_45 : decode cX9_join 45 = .ok (.getfield 178, 3) := by decide +kernel
theorem dX9_join_48 : decode cX9_join 48 = .ok (.aload 4, 2) := by decide +kernel
theorem dX9_join_50 : decode cX9_join 50 = .ok (.getfield 178, 3) := by decide +kernel
theorem dX9_join_53 : decode cX9_join 53 = .ok (.iadd, 1) := by decide +kernel
theorem dX9_join_54 : decode cX9_join 54 = .ok (.iconst 1, 1) := by decide +kernel
theorem dX9_join_55 : decode cX9_join 55 = .ok (.invokevirtual 136, 3) := by decide +kernel
theorem dX9_join_58 : decode cX9_join 58 = .ok (.astore 5, 2) := by decide +kernel
theorem dX9_join_60 : decode cX9_join 60 = .ok (.aload 5, 2) := by decide +kernel
theorem dX9_join_62 : decode cX9_join 62 = .ok (.aload_n 3, 1) := by decide +kernel
theorem dX9_join_63 : decode cX9_join 63 = .ok (.getfield 189, 3) := by decide +kernel
theorem dX9_join_66 : decode cX9_join 66 = .ok (.putfield 189, 3) := by decide +kernel
theorem dX9_join_69 : decode cX9_join 69 = .ok (.aload 5, 2) := by decide +kernel
theorem dX9_join_71 : decode cX9_join 71 = .ok (.aload_n 3, 1) := by decide +kernel
theorem dX9_join_72 : decode cX9_join 72 = .ok (.getfield 172, 3) := by decide +kernel
theorem dX9_join_75 : decode cX9_join 75 = .ok (.aload 4, 2) := by decide +kernel
theorem dX9_join_77 : decode cX9_join 77 = .ok (.getfield 172, 3) := by decide +kernel
theorem dX9_join_80 : decode cX9_join 80 = .ok (.invokestatic 214, 3) := by decide +kernel
theorem dX9_join_83 : decode cX9_join 83 = .ok (.putfield 172, 3) := by decide +kernel
theorem dX9_join_86 : decode cX9_join 86 = .ok (.aload 5, 2) := by decide +kernel
theorem dX9_join_88 : decode cX9_join 88 = .ok (.aload_n 3, 1) := by decide +kernel
theorem dX9_join_89 : decode cX9_join 89 = .ok (.getfield 192, 3) := by decide +kernel
theorem dX9_join_92 : decode cX9_join 92 = .ok (.ifCond .ne 11, 3) := by decide +kernel
theorem dX9_join_95 : decode cX9_join 95 = .ok (.aload 4, 2) := by decide +kernel
theorem dX9_join_97 : decode cX9_join 97 = .ok (.getfield 192, 3) := by decide +kernel
theorem dX9_join_100 : decode cX9_join 100 = .ok (.ifCond .eq 7, 3) := by decide +kernel
theorem dX9_join_103 : decode cX9_join 103 = .ok (.iconst 1, 1) := by decide +kernel
theorem dX9_join_104 : decode cX9_join 104 = .ok (.goto 4, 3) := by decide +kernel
theorem dX9_join_107 : decode cX9_join 107 = .ok (.iconst 0, 1) := by decide +kernel
theorem dX9_join_108 : decode cX9_join 108 = .ok (.putfield 192, 3) := by decide +kernel
theorem dX9_join_111 : decode cX9_join 111 = .ok (.aload 5, 2) := by decide +kernel
theorem dX9_join_113 : decode cX9_join 113 = .ok (.aload_n 3, 1) := by decide +kernel
theorem dX9_join_114 : decode cX9_join 114 = .ok (.getfield 195, 3) := by decide +kernel
theorem dX9_join_117 : decode cX9_join 117 = .ok (.aload 4, 2) := by decide +kernel
theorem dX9_join_119 : decode cX9_join 119 = .ok (.getfield 195, 3) := by decide +kernel
theorem dX9_join_122 : decode cX9_join 122 = .ok (.ior, 1) := by decide +kernel
theorem dX9_join_123 : decode cX9_join 123 = .ok (.putfield 195, 3) := by decide +kernel
theorem dX9_join_126 : decode cX9_join 126 = .ok (.aload 5, 2) := by decide +kernel
theorem dX9_join_128 : decode cX9_join 128 = .ok (.aload_n 3, 1) := by decide +kernel
theorem dX9_join_129 : decode cX9_join 129 = .ok (.invokevirtual 198, 3) := by decide +kernel
theorem dX9_join_132 : decode cX9_join 132 = .ok (.aload 4, 2) := by decide +kernel
theorem dX9_join_134 : decode cX9_join 134 = .ok (.invokevirtual 198, 3) := by decide +kernel
theorem dX9_join_137 : decode cX9_join 137 = .ok (.lor, 1) := by decide +kernel
theorem dX9_join_138 : decode cX9_join 138 = .ok (.putfield 202, 3) := by decide +kernel
theorem dX9_join_141 : decode cX9_join 141 = .ok (.aload 5, 2) := by decide +kernel
theorem dX9_join_143 : decode cX9_join 143 = .ok (.aload_n 3, 1) := by decide +kernel
theorem dX9_join_144 : decode cX9_join 144 = .ok (.aload_n 3, 1) := by decide +kernel
theorem dX9_join_145 : decode cX9_join 145 = .ok (.getfield 178, 3) := by decide +kernel
theorem dX9_join_148 : decode cX9_join 148 = .ok (.invokevirtual 206, 3) := by decide +kernel
theorem dX9_join_151 : decode cX9_join 151 = .ok (.aload 4, 2) := by decide +kernel
theorem dX9_join_153 : decode cX9_join 153 = .ok (.aload 4, 2) := by decide +kernel
theorem dX9_join_155 : decode cX9_join 155 = .ok (.getfield 178, 3) := by decide +kernel
theorem dX9_join_158 : decode cX9_join 158 = .ok (.invokevirtual 206, 3) := by decide +kernel
theorem dX9_join_161 : decode cX9_join 161 = .ok (.iadd, 1) := by decide +kernel
theorem dX9_join_162 : decode cX9_join 162 = .ok (.putfield 140, 3) := by decide +kernel
theorem dX9_join_165 : decode cX9_join 165 = .ok (.aload 5, 2) := by decide +kernel
theorem dX9_join_167 : decode cX9_join 167 = .ok (.getfield 154, 3) := by decide +kernel
theorem dX9_join_170 : decode cX9_join 170 = .ok (.ireturn, 1) := by decide +kernel
theorem dX9_recall_0 : decode cX9_recall 0 = .ok (.aload_n 0, 1) := by decide +kernel
theorem dX9_recall_1 : decode cX9_recall 1 = .ok (.getfield 26, 3) := by decide +kernel
theorem dX9_recall_4 : decode cX9_recall 4 = .ok (.aload_n 0, 1) := by decide +kernel
theorem dX9_recall_5 : decode cX9_recall 5 = .ok (.iload_n 1, 1) := by decide +kernel
theorem dX9_recall_6 : decode cX9_recall 6 = .ok (.invokevirtual 157, 3) := by decide +kernel
theorem dX9_recall_9 : decode cX9_recall 9 = .ok (.invokevirtual 220, 3) := by decide +kernel
theorem dX9_recall_12 : decode cX9_recall 12 = .ok (.lstore_n 2, 1) := by decide +kernel
theorem dX9_recall_13 : decode cX9_recall 13 = .ok (.iconst 0, 1) := by decide +kernel
theorem dX9_recall_14 : decode cX9_recall 14 = .ok (.istore 4, 2) := by decide +kernel
theorem dX9_recall_16 : decode cX9_recall 16 = .ok (.iconst 0, 1) := by decide +kernel
theorem dX9_recall_17 : decode cX9_recall 17 = .ok (.istore 5, 2) := by decide +kernel
theorem dX9_recall_19 : decode cX9_recall 19 = .ok (.iconst 0, 1) := by decide +kernel
theorem dX9_recall_20 : decode cX9_recall 20 = .ok (.istore 6, 2) := by decide +kernel
theorem dX9_recall_22 : decode cX9_recall 22 = .ok (.iload 6, 2) := by decide +kernel
theorem dX9_recall_24 : decode cX9_recall 24 = .ok (.aload_n 0, 1) := by decide +kernel
theorem dX9_recall_25 : decode cX9_recall 25 = .ok (.getfield 26, 3) := by decide +kernel
theorem dX9_recall_28 : decode cX9_recall 28 = .ok (.getfield 224, 3) := by decide +kernel
theorem dX9_recall_31 : decode cX9_recall 31 = .ok (.if_icmp .ge 82, 3) := by decide +kernel
theorem dX9_recall_34 : decode cX9_recall 34 = .ok (.aload_n 0, 1) := by decide +kernel
theorem dX9_recall_35 : decode cX9_recall 35 = .ok (.getfield 26, 3) := by decide +kernel
theorem dX9_recall_38 : decode cX9_recall 38 = .ok (.getfield 227, 3) := by decide +kernel
theorem dX9_recall_41 : decode cX9_recall 41 = .ok (.iload 6, 2) := by decide +kernel
theorem dX9_recall_43 : decode cX9_recall 43 = .ok (.aaload, 1) := by decide +kernel
theorem dX9_recall_44 : decode cX9_recall 44 = .ok (.astore 7, 2) := by decide +kernel
theorem dX9_recall_46 : decode cX9_recall 46 = .ok (.lload_n 2, 1) := by decide +kernel
theorem dX9_recall_47 : decode cX9_recall 47 = .ok (.aload 7, 2) := by decide +kernel
theorem dX9_recall_49 : decode cX9_recall 49 = .ok (.invokevirtual 198, 3) := by decide +kernel
theorem dX9_recall_52 : decode cX9_recall 52 = .ok (.land, 1) := by decide +kernel
theorem dX9_recall_53 : decode cX9_recall 53 = .ok (.lconst 0, 1) := by decide +kernel
theorem dX9_recall_54 : decode cX9_recall 54 = .ok (.lcmp, 1) := by decide +kernel
theorem dX9_recall_55 : decode cX9_recall 55 = .ok (.ifCond .ne 6, 3) := by decide +kernel
theorem dX9_recall_58 : decode cX9_recall 58 = .ok (.goto 49, 3) := by decide +kernel
theorem dX9_recall_61 : decode cX9_recall 61 = .ok (.aload 7, 2) := by decide +kernel
theorem dX9_recall_63 : decode cX9_recall 63 = .ok (.getfield 161, 3) := by decide +kernel
theorem dX9_recall_66 : decode cX9_recall 66 = .ok (.bipush 6, 2) := by decide +kernel
theorem dX9_recall_68 : decode cX9_recall 68 = .ok (.if_icmp .ne 9, 3) := by decide +kernel
theorem dX9_recall_71 : decode cX9_recall 71 = .ok (.iinc 5 1, 3) := by decide +kernel
theorem dX9_recall_74 : decode cX9_recall 74 = .ok (.goto 33, 3) := by decide +kernel
theorem dX9_recall_77 : decode cX9_recall 77 = .ok (.aload 7, 2) := by decide +kernel
theorem dX9_recall_79 : decode cX9_recall 79 = .ok (.getfield 161, 3) := by decide +kernel
theorem dX9_recall_82 : decode cX9_recall 82 = .ok (.iconst 4, 1) := by decide +kernel
theorem dX9_recall_83 : decode cX9_recall 83 = .ok (.if_icmp .eq 24, 3) := by decide +kernel
theorem dX9_recall_86 : decode cX9_recall 86 = .ok (.aload 7, 2) := by decide +kernel
theorem dX9_recall_88 : decode cX9_recall 88 = .ok (.getfield 161, 3) := by decide +kernel
theorem dX9_recall_91 : decode cX9_recall 91 = .ok (.iconst 5, 1) := by decide +kernel
theorem dX9_recall_92 : decode cX9_recall 92 = .ok (.if_icmp .eq 15, 3) := by decide +kernel
theorem dX9_recall_95 : decode cX9_recall 95 = .ok (.aload_n 0, 1) := by decide +kernel
theorem dX9_recall_96 : decode cX9_recall 96 = .ok (.getfield 18, 3) := by decide +kernel
theorem dX9_recall_99 : decode cX9_recall 99 = .ok (.aload 7, 2) := by decide +kernel
theorem dX9_recall_101 : decode cX9_recall 101 = .ok (.invokevirtual 231, 3) := by decide +kernel
theorem dX9_recall_104 : decode cX9_recall 104 = .ok (.iinc 4 1, 3) := by decide +kernel
theorem dX9_recall_107 : decode cX9_recall 107 = .ok (.iinc 6 1, 3) := by decide +kernel
theorem dX9_recall_110 : decode cX9_recall 110 = .ok (.goto (-88), 3) := by decide +kernel
theorem dX9_recall_113 : decode cX9_recall 113 = .ok (.iconst 0, 1) := by decide +kernel
theorem dX9_recall_114 : decode cX9_recall 114 = .ok (.istore 6, 2) := by decide +kernel
theorem dX9_recall_116 : decode cX9_recall 116 = .ok (.iload 6, 2) := by decide +kernel
theorem dX9_recall_118 : decode cX9_recall 118 = .ok (.aload_n 0, 1) := by decide +kernel
theorem dX9_recall_119 : decode cX9_recall 119 = .ok (.getfield 11, 3) := by decide +kernel
theorem dX9_recall_122 : decode cX9_recall 122 = .ok (.arraylength, 1) := by decide +kernel
theorem dX9_recall_123 : decode cX9_recall 123 = .ok (.if_icmp .ge 23, 3) := by decide +kernel
theorem dX9_recall_126 : decode cX9_recall 126 = .ok (.aload_n 0, 1) := by decide +kernel
theorem dX9_recall_127 : decode cX9_recall 127 = .ok (.getfield 26, 3) := by decide +kernel
theorem dX9_recall_130 : decode cX9_recall 130 = .ok (.aload_n 0, 1) := by decide +kernel
theorem dX9_recall_131 : decode cX9_recall 131 = .ok (.getfield 11, 3) := by decide +kernel
theorem dX9_recall_134 : decode cX9_recall 134 = .ok (.iload 6, 2) := by decide +kernel
theorem dX9_recall_136 : decode cX9_recall 136 = .ok (.aaload, 1) := by decide +kernel
theorem dX9_recall_137 : decode cX9_recall 137 = .ok (.invokevirtual 235, 3) := by decide +kernel
theorem dX9_recall_140 : decode cX9_recall 140 = .ok (.iinc 6 1, 3) := by decide +kernel
theorem dX9_recall_143 : decode cX9_recall 143 = .ok (.goto (-27), 3) := by decide +kernel
theorem dX9_recall_146 : decode cX9_recall 146 = .ok (.iload 4, 2) := by decide +kernel
theorem dX9_recall_148 : decode cX9_recall 148 = .ok (.bipush 100, 2) := by decide +kernel
theorem dX9_recall_150 : decode cX9_recall 150 = .ok (.iload 5, 2) := by decide +kernel
theorem dX9_recall_152 : decode cX9_recall 152 = .ok (.imul, 1) := by decide +kernel
theorem dX9_recall_153 : decode cX9_recall 153 = .ok (.iadd, 1) := by decide +kernel
theorem dX9_recall_154 : decode cX9_recall 154 = .ok (.ireturn, 1) := by decide +kernel
theorem dX9_order_0 : decode cX9_order 0 = .ok (.aload_n 0, 1) := by decide +kernel
theorem dX9_order_1 : decode cX9_order 1 = .ok (.iload_n 1, 1) := by decide +kernel
theorem dX9_order_2 : decode cX9_order 2 = .ok (.invokevirtual 30, 3) := by decide +kernel
theorem dX9_order_5 : decode cX9_order 5 = .ok (.astore 4, 2) := by decide +kernel
theorem dX9_order_7 : decode cX9_order 7 = .ok (.iload_n 2, 1) := by decide +kernel
theorem dX9_order_8 : decode cX9_order 8 = .ok (.iconst 1, 1) := by decide +kernel
theorem dX9_order_9 : decode cX9_order 9 = .ok (.bipush 20, 2) := by decide +kernel
theorem dX9_order_11 : decode cX9_order 11 = .ok (.invokestatic 34, 3) := by decide +kernel
theorem dX9_order_14 : decode cX9_order 14 = .ok (.iload_n 3, 1) := by decide +kernel
theorem dX9_order_15 : decode cX9_order 15 = .ok (.iconst 0, 1) := by decide +kernel
theorem dX9_order_16 : decode cX9_order 16 = .ok (.sipush 999, 3) := by decide +kernel
theorem dX9_order_19 : decode cX9_order 19 = .ok (.invokestatic 34, 3) := by decide +kernel
theorem dX9_order_22 : decode cX9_order 22 = .ok (.aload_n 0, 1) := by decide +kernel
theorem dX9_order_23 : decode cX9_order 23 = .ok (.getfield 26, 3) := by decide +kernel
theorem dX9_order_26 : decode cX9_order 26 = .ok (.getfield 239, 3) := by decide +kernel
theorem dX9_order_29 : decode cX9_order 29 = .ok (.istore 5, 2) := by decide +kernel
theorem dX9_order_31 : decode cX9_order 31 = .ok (.aload_n 0, 1) := by decide +kernel
theorem dX9_order_32 : decode cX9_order 32 = .ok (.getfield 26, 3) := by decide +kernel
theorem dX9_order_35 : decode cX9_order 35 = .ok (.new 242, 3) := by decide +kernel
theorem dX9_order_38 : decode cX9_order 38 = .ok (.dup, 1) := by decide +kernel
theorem dX9_order_39 : decode cX9_order 39 = .ok (.aload 4, 2) := by decide +kernel
theorem dX9_order_41 : decode cX9_order 41 = .ok (.iload_n 2, 1) := by decide +kernel
theorem dX9_order_42 : decode cX9_order 42 = .ok (.iload_n 3, 1) := by decide +kernel
theorem dX9_order_43 : decode cX9_order 43 = .ok (.invokespecial 244, 3) := by decide +kernel
theorem dX9_order_46 : decode cX9_order 46 = .ok (.invokevirtual 247, 3) := by decide +kernel
theorem dX9_order_49 : decode cX9_order 49 = .ok (.iload 5, 2) := by decide +kernel
theorem dX9_order_51 : decode cX9_order 51 = .ok (.ireturn, 1) := by decide +kernel
theorem dX9_promise_0 : decode cX9_promise 0 = .ok (.aload_n 0, 1) := by decide +kernel
theorem dX9_promise_1 : decode cX9_promise 1 = .ok (.iload_n 1, 1) := by decide +kernel
theorem dX9_promise_2 : decode cX9_promise 2 = .ok (.invokevirtual 251, 3) := by decide +kernel
theorem dX9_promise_5 : decode cX9_promise 5 = .ok (.astore_n 2, 1) := by decide +kernel
theorem dX9_promise_6 : decode cX9_promise 6 = .ok (.aload_n 2, 1) := by decide +kernel
theorem dX9_promise_7 : decode cX9_promise 7 = .ok (.getfield 255, 3) := by decide +kernel
theorem dX9_promise_10 : decode cX9_promise 10 = .ok (.ifnonnull 7, 3) := by decide +kernel
theorem dX9_promise_13 : decode cX9_promise 13 = .ok (.iconst 1, 1) := by decide +kernel
theorem dX9_promise_14 : decode cX9_promise 14 = .ok (.goto 4, 3) := by decide +kernel
theorem dX9_promise_17 : decode cX9_promise 17 = .ok (.iconst 0, 1) := by decide +kernel
theorem dX9_promise_18 : decode cX9_promise 18 = .ok (.invokestatic 49, 3) := by decide +kernel
theorem dX9_promise_21 : decode cX9_promise 21 = .ok (.aload_n 2, 1) := by decide +kernel
theorem dX9_promise_22 : decode cX9_promise 22 = .ok (.getfield 259, 3) := by decide +kernel
theorem dX9_promise_25 : decode cX9_promise 25 = .ok (.aload_n 2, 1) := by decide +kernel
theorem dX9_promise_26 : decode cX9_promise 26 = .ok (.getfield 260, 3) := by decide +kernel
theorem dX9_promise_29 : decode cX9_promise 29 = .ok (.isub, 1) := by decide +kernel
theorem dX9_promise_30 : decode cX9_promise 30 = .ok (.aload_n 2, 1) := by decide +kernel
theorem dX9_promise_31 : decode cX9_promise 31 = .ok (.getfield 263, 3) := by decide +kernel
theorem dX9_promise_34 : decode cX9_promise 34 = .ok (.invokevirtual 264, 3) := by decide +kernel
theorem dX9_promise_37 : decode cX9_promise 37 = .ok (.invokestatic 268, 3) := by decide +kernel
theorem dX9_promise_40 : decode cX9_promise 40 = .ok (.istore_n 3, 1) := by decide +kernel
theorem dX9_promise_41 : decode cX9_promise 41 = .ok (.aload_n 2, 1) := by decide +kernel
theorem dX9_promise_42 : decode cX9_promise 42 = .ok (.dup, 1) := by decide +kernel
theorem dX9_promise_43 : decode cX9_promise 43 = .ok (.getfield 260, 3) := by decide +kernel
theorem dX9_promise_46 : decode cX9_promise 46 = .ok (.iload_n 3, 1) := by decide +kernel
theorem dX9_promise_47 : decode cX9_promise 47 = .ok (.iadd, 1) := by decide +kernel
theorem dX9_promise_48 : decode cX9_promise 48 = .ok (.putfield 260, 3) := by decide +kernel
theorem dX9_promise_51 : decode cX9_promise 51 = .ok (.aload_n 2, 1) := by decide +kernel
theorem dX9_promise_52 : decode cX9_promise 52 = .ok (.getfield 263, 3) := by decide +kernel
theorem dX9_promise_55 : decode cX9_promise 55 = .ok (.dup, 1) := by decide +kernel
theorem dX9_promise_56 : decode cX9_promise 56 = .ok (.getfield 271, 3) := by decide +kernel
theorem dX9_promise_59 : decode cX9_promise 59 = .ok (.iload_n 3, 1) := by decide +kernel
theorem dX9_promise_60 : decode cX9_promise 60 = .ok (.iadd, 1) := by decide +kernel
theorem dX9_promise_61 : decode cX9_promise 61 = .ok (.putfield 271, 3) := by decide +kernel
theorem dX9_promise_64 : decode cX9_promise 64 = .ok (.aload_n 2, 1) := by decide +kernel
theorem dX9_promise_65 : decode cX9_promise 65 = .ok (.getfield 260, 3) := by decide +kernel
theorem dX9_promise_68 : decode cX9_promise 68 = .ok (.ireturn, 1) := by decide +kernel
theorem dX9_ship_0 : decode cX9_ship 0 = .ok (.aload_n 0, 1) := by decide +kernel
theorem dX9_ship_1 : decode cX9_ship 1 = .ok (.iload_n 1, 1) := by decide +kernel
theorem dX9_ship_2 : decode cX9_ship 2 = .ok (.invokevirtual 251, 3) := by decide +kernel
theorem dX9_ship_5 : decode cX9_ship 5 = .ok (.astore_n 2, 1) := by decide +kernel
theorem dX9_ship_6 : decode cX9_ship 6 = .ok (.aload_n 2, 1) := by decide +kernel
theorem dX9_ship_7 : decode cX9_ship 7 = .ok (.getfield 255, 3) := by decide +kernel
theorem dX9_ship_10 : decode cX9_ship 10 = .ok (.ifnonnull 18, 3) := by decide +kernel
theorem dX9_ship_13 : decode cX9_ship 13 = .ok (.aload_n 2, 1) := by decide +kernel
theorem dX9_ship_14 : decode cX9_ship 14 = .ok (.getfield 260, 3) := by decide +kernel
theorem dX9_ship_17 : decode cX9_ship 17 = .ok (.aload_n 2, 1) := by decide +kernel
theorem dX9_ship_18 : decode cX9_ship 18 = .ok (.getfield 259, 3) := by decide +kernel
theorem dX9_ship_21 : decode cX9_ship 21 = .ok (.if_icmp .ne 7, 3) := by decide +kernel
theorem dX9_ship_24 : decode cX9_ship 24 = .ok (.iconst 1, 1) := by decide +kernel
theorem dX9_ship_25 : decode cX9_ship 25 = .ok (.goto 4, 3) := by decide +kernel
theorem dX9_ship_28 : decode cX9_ship 28 = .ok (.iconst 0, 1) := by decide +kernel
theorem dX9_ship_29 : decode cX9_ship 29 = .ok (.invokestatic 49, 3) := by decide +kernel
theorem dX9_ship_32 : decode cX9_ship 32 = .ok (.aload_n 0, 1) := by decide +kernel
theorem dX9_ship_33 : decode cX9_ship 33 = .ok (.getfield 26, 3) := by decide +kernel
theorem dX9_ship_36 : decode cX9_ship 36 = .ok (.aload_n 2, 1) := by decide +kernel
theorem dX9_ship_37 : decode cX9_ship 37 = .ok (.getfield 263, 3) := by decide +kernel
theorem dX9_ship_40 : decode cX9_ship 40 = .ok (.aload_n 2, 1) := by decide +kernel
theorem dX9_ship_41 : decode cX9_ship 41 = .ok (.getfield 259, 3) := by decide +kernel
theorem dX9_ship_44 : decode cX9_ship 44 = .ok (.bipush 6, 2) := by decide +kernel
theorem dX9_ship_46 : decode cX9_ship 46 = .ok (.invokevirtual 136, 3) := by decide +kernel
theorem dX9_ship_49 : decode cX9_ship 49 = .ok (.astore_n 3, 1) := by decide +kernel
theorem dX9_ship_50 : decode cX9_ship 50 = .ok (.aload_n 3, 1) := by decide +kernel
theorem dX9_ship_51 : decode cX9_ship 51 = .ok (.aload_n 2, 1) := by decide +kernel
theorem dX9_ship_52 : decode cX9_ship 52 = .ok (.getfield 263, 3) := by decide +kernel
theorem dX9_ship_55 : decode cX9_ship 55 = .ok (.getfield 46, 3) := by decide +kernel
theorem dX9_ship_58 : decode cX9_ship 58 = .ok (.putfield 189, 3) := by decide +kernel
theorem dX9_ship_61 : decode cX9_ship 61 = .ok (.aload_n 0, 1) := by decide +kernel
theorem dX9_ship_62 : decode cX9_ship 62 = .ok (.getfield 26, 3) := by decide +kernel
theorem dX9_ship_65 : decode cX9_ship 65 = .ok (.aload_n 3, 1) := by decide +kernel
theorem dX9_ship_66 : decode cX9_ship 66 = .ok (.aload_n 2, 1) := by decide +kernel
theorem dX9_ship_67 : decode cX9_ship 67 = .ok (.getfield 263, 3) := by decide +kernel
theorem dX9_ship_70 : decode cX9_ship 70 = .ok (.aload_n 2, 1) := by decide +kernel
theorem dX9_ship_71 : decode cX9_ship 71 = .ok (.getfield 259, 3) := by decide +kernel
theorem dX9_ship_74 : decode cX9_ship 74 = .ok (.invokevirtual 272, 3) := by decide +kernel
theorem dX9_ship_77 : decode cX9_ship 77 = .ok (.aload_n 2, 1) := by decide +kernel
theorem dX9_ship_78 : decode cX9_ship 78 = .ok (.getfield 263, 3) := by decide +kernel
theorem dX9_ship_81 : decode cX9_ship 81 = .ok (.dup, 1) := by decide +kernel
theorem dX9_ship_82 : decode cX9_ship 82 = .ok (.getfield 271, 3) := by decide +kernel
theorem dX9_ship_85 : decode cX9_ship 85 = .ok (.aload_n 2, 1) := by decide +kernel
theorem dX9_ship_86 : decode cX9_ship 86 = .ok (.getfield 260, 3) := by decide +kernel
theorem dX9_ship_89 : decode cX9_ship 89 = .ok (.isub, 1) := by decide +kernel
theorem dX9_ship_90 : decode cX9_ship 90 = .ok (.putfield 271, 3) := by decide +kernel
theorem dX9_ship_93 : decode cX9_ship 93 = .ok (.aload_n 2, 1) := by decide +kernel
theorem dX9_ship_94 : decode cX9_ship 94 = .ok (.aload_n 3, 1) := by decide +kernel
theorem dX9_ship_95 : decode cX9_ship 95 = .ok (.putfield 255, 3) := by decide +kernel
theorem dX9_ship_98 : decode cX9_ship 98 = .ok (.aload_n 2, 1) := by decide +kernel
theorem dX9_ship_99 : decode cX9_ship 99 = .ok (.aload_n 0, 1) := by decide +kernel
theorem dX9_ship_100 : decode cX9_ship 100 = .ok (.getfield 145, 3) := by decide +kernel
theorem dX9_ship_103 : decode cX9_ship 103 = .ok (.putfield 276, 3) := by decide +kernel
theorem dX9_ship_106 : decode cX9_ship 106 = .ok (.aload_n 3, 1) := by decide +kernel
theorem dX9_ship_107 : decode cX9_ship 107 = .ok (.getfield 154, 3) := by decide +kernel
theorem dX9_ship_110 : decode cX9_ship 110 = .ok (.ireturn, 1) := by decide +kernel
theorem dX9_stand_0 : decode cX9_stand 0 = .ok (.aload_n 0, 1) := by decide +kernel
theorem dX9_stand_1 : decode cX9_stand 1 = .ok (.getfield 279, 3) := by decide +kernel
theorem dX9_stand_4 : decode cX9_stand 4 = .ok (.istore_n 2, 1) := by decide +kernel
theorem dX9_stand_5 : decode cX9_stand 5 = .ok (.aload_n 0, 1) := by decide +kernel
theorem dX9_stand_6 : decode cX9_stand 6 = .ok (.iload_n 1, 1) := by decide +kernel
theorem dX9_stand_7 : decode cX9_stand 7 = .ok (.putfield 279, 3) := by decide +kernel
theorem dX9_stand_10 : decode cX9_stand 10 = .ok (.iload_n 2, 1) := by decide +kernel
theorem dX9_stand_11 : decode cX9_stand 11 = .ok (.ireturn, 1) := by decide +kernel
theorem dX9_run_0 : decode cX9_run 0 = .ok (.iload_n 1, 1) := by decide +kernel
theorem dX9_run_1 : decode cX9_run 1 = .ok (.iconst 1, 1) := by decide +kernel
theorem dX9_run_2 : decode cX9_run 2 = .ok (.bipush 50, 2) := by decide +kernel
theorem dX9_run_4 : decode cX9_run 4 = .ok (.invokestatic 34, 3) := by decide +kernel
theorem dX9_run_7 : decode cX9_run 7 = .ok (.aload_n 0, 1) := by decide +kernel
theorem dX9_run_8 : decode cX9_run 8 = .ok (.getfield 145, 3) := by decide +kernel
theorem dX9_run_11 : decode cX9_run 11 = .ok (.iload_n 1, 1) := by decide +kernel
theorem dX9_run_12 : decode cX9_run 12 = .ok (.iadd, 1) := by decide +kernel
theorem dX9_run_13 : decode cX9_run 13 = .ok (.sipush 2000, 3) := by decide +kernel
theorem dX9_run_16 : decode cX9_run 16 = .ok (.if_icmp .gt 7, 3) := by decide +kernel
theorem dX9_run_19 : decode cX9_run 19 = .ok (.iconst 1, 1) := by decide +kernel
theorem dX9_run_20 : decode cX9_run 20 = .ok (.goto 4, 3) := by decide +kernel
theorem dX9_run_23 : decode cX9_run 23 = .ok (.iconst 0, 1) := by decide +kernel
theorem dX9_run_24 : decode cX9_run 24 = .ok (.invokestatic 49, 3) := by decide +kernel
theorem dX9_run_27 : decode cX9_run 27 = .ok (.iconst 0, 1) := by decide +kernel
theorem dX9_run_28 : decode cX9_run 28 = .ok (.istore_n 2, 1) := by decide +kernel
theorem dX9_run_29 : decode cX9_run 29 = .ok (.iload_n 2, 1) := by decide +kernel
theorem dX9_run_30 : decode cX9_run 30 = .ok (.iload_n 1, 1) := by decide +kernel
theorem dX9_run_31 : decode cX9_run 31 = .ok (.if_icmp .ge 37, 3) := by decide +kernel
theorem dX9_run_34 : decode cX9_run 34 = .ok (.aload_n 0, 1) := by decide +kernel
theorem dX9_run_35 : decode cX9_run 35 = .ok (.getfield 279, 3) := by decide +kernel
theorem dX9_run_38 : decode cX9_run 38 = .ok (.ifCond .ne 14, 3) := by decide +kernel
theorem dX9_run_41 : decode cX9_run 41 = .ok (.aload_n 0, 1) := by decide +kernel
theorem dX9_run_42 : decode cX9_run 42 = .ok (.getfield 18, 3) := by decide +kernel
theorem dX9_run_45 : decode cX9_run 45 = .ok (.aload_n 0, 1) := by decide +kernel
theorem dX9_run_46 : decode cX9_run 46 = .ok (.getfield 145, 3) := by decide +kernel
theorem dX9_run_49 : decode cX9_run 49 = .ok (.invokevirtual 282, 3) := by decide +kernel
theorem dX9_run_52 : decode cX9_run 52 = .ok (.aload_n 0, 1) := by decide +kernel
theorem dX9_run_53 : decode cX9_run 53 = .ok (.dup, 1) := by decide +kernel
theorem dX9_run_54 : decode cX9_run 54 = .ok (.getfield 145, 3) := by decide +kernel
theorem dX9_run_57 : decode cX9_run 57 = .ok (.iconst 1, 1) := by decide +kernel
theorem dX9_run_58 : decode cX9_run 58 = .ok (.iadd, 1) := by decide +kernel
theorem dX9_run_59 : decode cX9_run 59 = .ok (.putfield 145, 3) := by decide +kernel
theorem dX9_run_62 : decode cX9_run 62 = .ok (.iinc 2 1, 3) := by decide +kernel
theorem dX9_run_65 : decode cX9_run 65 = .ok (.goto (-36), 3) := by decide +kernel
theorem dX9_run_68 : decode cX9_run 68 = .ok (.aload_n 0, 1) := by decide +kernel
theorem dX9_run_69 : decode cX9_run 69 = .ok (.getfield 145, 3) := by decide +kernel
theorem dX9_run_72 : decode cX9_run 72 = .ok (.ireturn, 1) := by decide +kernel
theorem dX9_hour_0 : decode cX9_hour 0 = .ok (.aload_n 0, 1) := by decide +kernel
theorem dX9_hour_1 : decode cX9_hour 1 = .ok (.getfield 145, 3) := by decide +kernel
theorem dX9_hour_4 : decode cX9_hour 4 = .ok (.ireturn, 1) := by decide +kernel
theorem dX9_batches_0 : decode cX9_batches 0 = .ok (.aload_n 0, 1) := by decide +kernel
theorem dX9_batches_1 : decode cX9_batches 1 = .ok (.getfield 26, 3) := by decide +kernel
theorem dX9_batches_4 : decode cX9_batches 4 = .ok (.getfield 224, 3) := by decide +kernel
theorem dX9_batches_7 : decode cX9_batches 7 = .ok (.ireturn, 1) := by decide +kernel
theorem dX9_batch_0 : decode cX9_batch 0 = .ok (.aload_n 0, 1) := by decide +kernel
theorem dX9_batch_1 : decode cX9_batch 1 = .ok (.iload_n 1, 1) := by decide +kernel
theorem dX9_batch_2 : decode cX9_batch 2 = .ok (.invokevirtual 157, 3) := by decide +kernel
theorem dX9_batch_5 : decode cX9_batch 5 = .ok (.astore_n 3, 1) := by decide +kernel
theorem dX9_batch_6 : decode cX9_batch 6 = .ok (.iload_n 2, 1) := by decide +kernel
theorem dX9_batch_7 : decode cX9_batch 7 = .ok (.iconst 0, 1) := by decide +kernel
theorem dX9_batch_8 : decode cX9_batch 8 = .ok (.bipush 9, 2) := by decide +kernel
theorem dX9_batch_10 : decode cX9_batch 10 = .ok (.invokestatic 34, 3) := by decide +kernel
theorem dX9_batch_13 : decode cX9_batch 13 = .ok (.aload_n 3, 1) := by decide +kernel
theorem dX9_batch_14 : decode cX9_batch 14 = .ok (.iload_n 2, 1) := by decide +kernel
theorem dX9_batch_15 : decode cX9_batch 15 = .ok (.invokevirtual 285, 3) := by decide +kernel
theorem dX9_batch_18 : decode cX9_batch 18 = .ok (.ireturn, 1) := by decide +kernel
theorem dX9_parent_0 : decode cX9_parent 0 = .ok (.aload_n 0, 1) := by decide +kernel
theorem dX9_parent_1 : decode cX9_parent 1 = .ok (.iload_n 1, 1) := by decide +kernel
theorem dX9_parent_2 : decode cX9_parent 2 = .ok (.invokevirtual 157, 3) := by decide +kernel
theorem dX9_parent_5 : decode cX9_parent 5 = .ok (.astore_n 3, 1) := by decide +kernel
theorem dX9_parent_6 : decode cX9_parent 6 = .ok (.iload_n 2, 1) := by decide +kernel
theorem dX9_parent_7 : decode cX9_parent 7 = .ok (.ifCond .lt 7, 3) := by decide +kernel
theorem dX9_parent_10 : decode cX9_parent 10 = .ok (.iconst 1, 1) := by decide +kernel
theorem dX9_parent_11 : decode cX9_parent 11 = .ok (.goto 4, 3) := by decide +kernel
theorem dX9_parent_14 : decode cX9_parent 14 = .ok (.iconst 0, 1) := by decide +kernel
theorem dX9_parent_15 : decode cX9_parent 15 = .ok (.invokestatic 65, 3) := by decide +kernel
theorem dX9_parent_18 : decode cX9_parent 18 = .ok (.aload_n 3, 1) := by decide +kernel
theorem dX9_parent_19 : decode cX9_parent 19 = .ok (.getfield 202, 3) := by decide +kernel
theorem dX9_parent_22 : decode cX9_parent 22 = .ok (.iload_n 2, 1) := by decide +kernel
theorem dX9_parent_23 : decode cX9_parent 23 = .ok (.invokestatic 288, 3) := by decide +kernel
theorem dX9_parent_26 : decode cX9_parent 26 = .ok (.ireturn, 1) := by decide +kernel
theorem dX9_origin_0 : decode cX9_origin 0 = .ok (.aload_n 0, 1) := by decide +kernel
theorem dX9_origin_1 : decode cX9_origin 1 = .ok (.iload_n 1, 1) := by decide +kernel
theorem dX9_origin_2 : decode cX9_origin 2 = .ok (.invokevirtual 157, 3) := by decide +kernel
theorem dX9_origin_5 : decode cX9_origin 5 = .ok (.astore_n 3, 1) := by decide +kernel
theorem dX9_origin_6 : decode cX9_origin 6 = .ok (.iload_n 2, 1) := by decide +kernel
theorem dX9_origin_7 : decode cX9_origin 7 = .ok (.ifCond .lt 7, 3) := by decide +kernel
theorem dX9_origin_10 : decode cX9_origin 10 = .ok (.iconst 1, 1) := by decide +kernel
theorem dX9_origin_11 : decode cX9_origin 11 = .ok (.goto 4, 3) := by decide +kernel
theorem dX9_origin_14 : decode cX9_origin 14 = .ok (.iconst 0, 1) := by decide +kernel
theorem dX9_origin_15 : decode cX9_origin 15 = .ok (.invokestatic 65, 3) := by decide +kernel
theorem dX9_origin_18 : decode cX9_origin 18 = .ok (.aload_n 0, 1) := by decide +kernel
theorem dX9_origin_19 : decode cX9_origin 19 = .ok (.getfield 26, 3) := by decide +kernel
theorem dX9_origin_22 : decode cX9_origin 22 = .ok (.aload_n 3, 1) := by decide +kernel
theorem dX9_origin_23 : decode cX9_origin 23 = .ok (.invokevirtual 292, 3) := by decide +kernel
theorem dX9_origin_26 : decode cX9_origin 26 = .ok (.iload_n 2, 1) := by decide +kernel
theorem dX9_origin_27 : decode cX9_origin 27 = .ok (.invokestatic 288, 3) := by decide +kernel
theorem dX9_origin_30 : decode cX9_origin 30 = .ok (.ireturn, 1) := by decide +kernel
theorem dX9_machine_0 : decode cX9_machine 0 = .ok (.aload_n 0, 1) := by decide +kernel
theorem dX9_machine_1 : decode cX9_machine 1 = .ok (.iload_n 1, 1) := by decide +kernel
theorem dX9_machine_2 : decode cX9_machine 2 = .ok (.invokevirtual 295, 3) := by decide +kernel
theorem dX9_machine_5 : decode cX9_machine 5 = .ok (.astore_n 3, 1) := by decide +kernel
theorem dX9_machine_6 : decode cX9_machine 6 = .ok (.iload_n 2, 1) := by decide +kernel
theorem dX9_machine_7 : decode cX9_machine 7 = .ok (.iconst 0, 1) := by decide +kernel
theorem dX9_machine_8 : decode cX9_machine 8 = .ok (.iconst 5, 1) := by decide +kernel
theorem dX9_machine_9 : decode cX9_machine 9 = .ok (.invokestatic 34, 3) := by decide +kernel
theorem dX9_machine_12 : decode cX9_machine 12 = .ok (.aload_n 3, 1) := by decide +kernel
theorem dX9_machine_13 : decode cX9_machine 13 = .ok (.iload_n 2, 1) := by decide +kernel
theorem dX9_machine_14 : decode cX9_machine 14 = .ok (.invokevirtual 299, 3) := by decide +kernel
theorem dX9_machine_17 : decode cX9_machine 17 = .ok (.ireturn, 1) := by decide +kernel
theorem dX9_level_0 : decode cX9_level 0 = .ok (.aload_n 0, 1) := by decide +kernel
theorem dX9_level_1 : decode cX9_level 1 = .ok (.iload_n 1, 1) := by decide +kernel
theorem dX9_level_2 : decode cX9_level 2 = .ok (.invokevirtual 126, 3) := by decide +kernel
theorem dX9_level_5 : decode cX9_level 5 = .ok (.astore_n 3, 1) := by decide +kernel
theorem dX9_level_6 : decode cX9_level 6 = .ok (.iload_n 2, 1) := by decide +kernel
theorem dX9_level_7 : decode cX9_level 7 = .ok (.iconst 4, 1) := by decide +kernel
theorem dX9_level_8 : decode cX9_level 8 = .ok (.invokestatic 81, 3) := by decide +kernel
theorem dX9_level_11 : decode cX9_level 11 = .ok (.aload_n 3, 1) := by decide +kernel
theorem dX9_level_12 : decode cX9_level 12 = .ok (.getfield 130, 3) := by decide +kernel
theorem dX9_level_15 : decode cX9_level 15 = .ok (.iload_n 2, 1) := by decide +kernel
theorem dX9_level_16 : decode cX9_level 16 = .ok (.iaload, 1) := by decide +kernel
theorem dX9_level_17 : decode cX9_level 17 = .ok (.ireturn, 1) := by decide +kernel
theorem dX9_machineOf_0 : decode cX9_machineOf 0 = .ok (.aload_n 0, 1) := by decide +kernel
theorem dX9_machineOf_1 : decode cX9_machineOf 1 = .ok (.iload_n 1, 1) := by decide +kernel
theorem dX9_machineOf_2 : decode cX9_machineOf 2 = .ok (.invokevirtual 126, 3) := by decide +kernel
theorem dX9_machineOf_5 : decode cX9_machineOf 5 = .ok (.getfield 300, 3) := by decide +kernel
theorem dX9_machineOf_8 : decode cX9_machineOf 8 = .ok (.ireturn, 1) := by decide +kernel
theorem dX9_store_0 : decode cX9_store 0 = .ok (.aload_n 0, 1) := by decide +kernel
theorem dX9_store_1 : decode cX9_store 1 = .ok (.iload_n 1, 1) := by decide +kernel
theorem dX9_store_2 : decode cX9_store 2 = .ok (.invokevirtual 30, 3) := by decide +kernel
theorem dX9_store_5 : decode cX9_store 5 = .ok (.astore_n 3, 1) := by decide +kernel
theorem dX9_store_6 : decode cX9_store 6 = .ok (.iload_n 2, 1) := by decide +kernel
theorem dX9_store_7 : decode cX9_store 7 = .ok (.iconst 0, 1) := by decide +kernel
theorem dX9_store_8 : decode cX9_store 8 = .ok (.iconst 1, 1) := by decide +kernel
theorem dX9_store_9 : decode cX9_store 9 = .ok (.invokestatic 34, 3) := by decide +kernel
theorem dX9_store_12 : decode cX9_store 12 = .ok (.iload_n 2, 1) := by decide +kernel
theorem dX9_store_13 : decode cX9_store 13 = .ok (.ifCond .ne 10, 3) := by decide +kernel
theorem dX9_store_16 : decode cX9_store 16 = .ok (.aload_n 3, 1) := by decide +kernel
theorem dX9_store_17 : decode cX9_store 17 = .ok (.getfield 303, 3) := by decide +kernel
theorem dX9_store_20 : decode cX9_store 20 = .ok (.goto 7, 3) := by decide +kernel
theorem dX9_store_23 : decode cX9_store 23 = .ok (.aload_n 3, 1) := by decide +kernel
theorem dX9_store_24 : decode cX9_store 24 = .ok (.getfield 271, 3) := by decide +kernel
theorem dX9_store_27 : decode cX9_store 27 = .ok (.ireturn, 1) := by decide +kernel
theorem dX9_queue_0 : decode cX9_queue 0 = .ok (.iload_n 1, 1) := by decide +kernel
theorem dX9_queue_1 : decode cX9_queue 1 = .ok (.iconst 4, 1) := by decide +kernel
theorem dX9_queue_2 : decode cX9_queue 2 = .ok (.invokestatic 81, 3) := by decide +kernel
theorem dX9_queue_5 : decode cX9_queue 5 = .ok (.aload_n 0, 1) := by decide +kernel
theorem dX9_queue_6 : decode cX9_queue 6 = .ok (.getfield 26, 3) := by decide +kernel
theorem dX9_queue_9 : decode cX9_queue 9 = .ok (.iload_n 1, 1) := by decide +kernel
theorem dX9_queue_10 : decode cX9_queue 10 = .ok (.invokevirtual 306, 3) := by decide +kernel
theorem dX9_queue_13 : decode cX9_queue 13 = .ok (.ireturn, 1) := by decide +kernel
theorem dX9_queued_0 : decode cX9_queued 0 = .ok (.iload_n 1, 1) := by decide +kernel
theorem dX9_queued_1 : decode cX9_queued 1 = .ok (.iconst 4, 1) := by decide +kernel
theorem dX9_queued_2 : decode cX9_queued 2 = .ok (.invokestatic 81, 3) := by decide +kernel
theorem dX9_queued_5 : decode cX9_queued 5 = .ok (.iload_n 2, 1) := by decide +kernel
theorem dX9_queued_6 : decode cX9_queued 6 = .ok (.ifCond .lt 7, 3) := by decide +kernel
theorem dX9_queued_9 : decode cX9_queued 9 = .ok (.iconst 1, 1) := by decide +kernel
theorem dX9_queued_10 : decode cX9_queued 10 = .ok (.goto 4, 3) := by decide +kernel
theorem dX9_queued_13 : decode cX9_queued 13 = .ok (.iconst 0, 1) := by decide +kernel
theorem dX9_queued_14 : decode cX9_queued 14 = .ok (.invokestatic 65, 3) := by decide +kernel
theorem dX9_queued_17 : decode cX9_queued 17 = .ok (.aload_n 0, 1) := by decide +kernel
theorem dX9_queued_18 : decode cX9_queued 18 = .ok (.getfield 26, 3) := by decide +kernel
theorem dX9_queued_21 : decode cX9_queued 21 = .ok (.iload_n 1, 1) := by decide +kernel
theorem dX9_queued_22 : decode cX9_queued 22 = .ok (.iload_n 2, 1) := by decide +kernel
theorem dX9_queued_23 : decode cX9_queued 23 = .ok (.invokevirtual 309, 3) := by decide +kernel
theorem dX9_queued_26 : decode cX9_queued 26 = .ok (.ireturn, 1) := by decide +kernel
theorem dX9_told_0 : decode cX9_told 0 = .ok (.aload_n 0, 1) := by decide +kernel
theorem dX9_told_1 : decode cX9_told 1 = .ok (.iload_n 1, 1) := by decide +kernel
theorem dX9_told_2 : decode cX9_told 2 = .ok (.invokevirtual 251, 3) := by decide +kernel
theorem dX9_told_5 : decode cX9_told 5 = .ok (.astore_n 3, 1) := by decide +kernel
theorem dX9_told_6 : decode cX9_told 6 = .ok (.iload_n 2, 1) := by decide +kernel
theorem dX9_told_7 : decode cX9_told 7 = .ok (.iconst 0, 1) := by decide +kernel
theorem dX9_told_8 : decode cX9_told 8 = .ok (.iconst 5, 1) := by decide +kernel
theorem dX9_told_9 : decode cX9_told 9 = .ok (.invokestatic 34, 3) := by decide +kernel
theorem dX9_told_12 : decode cX9_told 12 = .ok (.aload_n 3, 1) := by decide +kernel
theorem dX9_told_13 : decode cX9_told 13 = .ok (.iload_n 2, 1) := by decide +kernel
theorem dX9_told_14 : decode cX9_told 14 = .ok (.aload_n 0, 1) := by decide +kernel
theorem dX9_told_15 : decode cX9_told 15 = .ok (.getfield 145, 3) := by decide +kernel
theorem dX9_told_18 : decode cX9_told 18 = .ok (.invokevirtual 312, 3) := by decide +kernel
theorem dX9_told_21 : decode cX9_told 21 = .ok (.ireturn, 1) := by decide +kernel
theorem dX9_why_0 : decode cX9_why 0 = .ok (.aload_n 0, 1) := by decide +kernel
theorem dX9_why_1 : decode cX9_why 1 = .ok (.iload_n 1, 1) := by decide +kernel
theorem dX9_why_2 : decode cX9_why 2 = .ok (.invokevirtual 157, 3) := by decide +kernel
theorem dX9_why_5 : decode cX9_why 5 = .ok (.astore_n 3, 1) := by decide +kernel
theorem dX9_why_6 : decode cX9_why 6 = .ok (.aload_n 0, 1) := by decide +kernel
theorem dX9_why_7 : decode cX9_why 7 = .ok (.getfield 18, 3) := by decide +kernel
theorem dX9_why_10 : decode cX9_why 10 = .ok (.aload_n 3, 1) := by decide +kernel
theorem dX9_why_11 : decode cX9_why 11 = .ok (.aload_n 0, 1) := by decide +kernel
theorem dX9_why_12 : decode cX9_why 12 = .ok (.iload_n 2, 1) := by decide +kernel
theorem dX9_why_13 : decode cX9_why 13 = .ok (.invokevirtual 295, 3) := by decide +kernel
theorem dX9_why_16 : decode cX9_why 16 = .ok (.aload_n 0, 1) := by decide +kernel
theorem dX9_why_17 : decode cX9_why 17 = .ok (.getfield 145, 3) := by decide +kernel
theorem dX9_why_20 : decode cX9_why 20 = .ok (.invokevirtual 314, 3) := by decide +kernel
theorem dX9_why_23 : decode cX9_why 23 = .ok (.ireturn, 1) := by decide +kernel
theorem dX9_latest_0 : decode cX9_latest 0 = .ok (.aload_n 0, 1) := by decide +kernel
theorem dX9_latest_1 : decode cX9_latest 1 = .ok (.iload_n 1, 1) := by decide +kernel
theorem dX9_latest_2 : decode cX9_latest 2 = .ok (.invokevirtual 30, 3) := by decide +kernel
theorem dX9_latest_5 : decode cX9_latest 5 = .ok (.astore_n 3, 1) := by decide +kernel
theorem dX9_latest_6 : decode cX9_latest 6 = .ok (.iload_n 2, 1) := by decide +kernel
theorem dX9_latest_7 : decode cX9_latest 7 = .ok (.iconst 0, 1) := by decide +kernel
theorem dX9_latest_8 : decode cX9_latest 8 = .ok (.sipush 999, 3) := by decide +kernel
theorem dX9_latest_11 : decode cX9_latest 11 = .ok (.invokestatic 34, 3) := by decide +kernel
theorem dX9_latest_14 : decode cX9_latest 14 = .ok (.iload_n 2, 1) := by decide +kernel
theorem dX9_latest_15 : decode cX9_latest 15 = .ok (.aload_n 0, 1) := by decide +kernel
theorem dX9_latest_16 : decode cX9_latest 16 = .ok (.aload_n 3, 1) := by decide +kernel
theorem dX9_latest_17 : decode cX9_latest 17 = .ok (.invokevirtual 318, 3) := by decide +kernel
theorem dX9_latest_20 : decode cX9_latest 20 = .ok (.isub, 1) := by decide +kernel
theorem dX9_latest_21 : decode cX9_latest 21 = .ok (.ireturn, 1) := by decide +kernel
theorem dX9_earliest_0 : decode cX9_earliest 0 = .ok (.aload_n 0, 1) := by decide +kernel
theorem dX9_earliest_1 : decode cX9_earliest 1 = .ok (.getfield 145, 3) := by decide +kernel
theorem dX9_earliest_4 : decode cX9_earliest 4 = .ok (.aload_n 0, 1) := by decide +kernel
theorem dX9_earliest_5 : decode cX9_earliest 5 = .ok (.aload_n 0, 1) := by decide +kernel
theorem dX9_earliest_6 : decode cX9_earliest 6 = .ok (.iload_n 1, 1) := by decide +kernel
theorem dX9_earliest_7 : decode cX9_earliest 7 = .ok (.invokevirtual 30, 3) := by decide +kernel
theorem dX9_earliest_10 : decode cX9_earliest 10 = .ok (.invokevirtual 318, 3) := by decide +kernel
theorem dX9_earliest_13 : decode cX9_earliest 13 = .ok (.iadd, 1) := by decide +kernel
theorem dX9_earliest_14 : decode cX9_earliest 14 = .ok (.ireturn, 1) := by decide +kernel
theorem dX9_ledger_0 : decode cX9_ledger 0 = .ok (.iload_n 1, 1) := by decide +kernel
theorem dX9_ledger_1 : decode cX9_ledger 1 = .ok (.iconst 0, 1) := by decide +kernel
theorem dX9_ledger_2 : decode cX9_ledger 2 = .ok (.iconst 5, 1) := by decide +kernel
theorem dX9_ledger_3 : decode cX9_ledger 3 = .ok (.invokestatic 34, 3) := by decide +kernel
theorem dX9_ledger_6 : decode cX9_ledger 6 = .ok (.iload_n 1, 1) := by decide +kernel
theorem dX9_ledger_7 : decode cX9_ledger 7 = .ok (.tableswitch 101 0 4 #[33, 38, 46, 82, 91], 33) := by decide +kernel
theorem dX9_ledger_40 : decode cX9_ledger 40 = .ok (.aload_n 0, 1) := by decide +kernel
theorem dX9_ledger_41 : decode cX9_ledger 41 = .ok (.getfield 151, 3) := by decide +kernel
theorem dX9_ledger_44 : decode cX9_ledger 44 = .ok (.ireturn, 1) := by decide +kernel
theorem dX9_ledger_45 : decode cX9_ledger 45 = .ok (.aload_n 0, 1) := by decide +kernel
theorem dX9_ledger_46 : decode cX9_ledger 46 = .ok (.getfield 18, 3) := by decide +kernel
theorem dX9_ledger_49 : decode cX9_ledger 49 = .ok (.getfield 322, 3) := by decide +kernel
theorem dX9_ledger_52 : decode cX9_ledger 52 = .ok (.ireturn, 1) := by decide +kernel
theorem dX9_ledger_53 : decode cX9_ledger 53 = .ok (.aload_n 0, 1) := by decide +kernel
theorem dX9_ledger_54 : decode cX9_ledger 54 = .ok (.getfield 26, 3) := by decide +kernel
theorem dX9_ledger_57 : decode cX9_ledger 57 = .ok (.iconst 0, 1) := by decide +kernel
theorem dX9_ledger_58 : decode cX9_ledger 58 = .ok (.invokevirtual 325, 3) := by decide +kernel
theorem dX9_ledger_61 : decode cX9_ledger 61 = .ok (.aload_n 0, 1) := by decide +kernel
theorem dX9_ledger_62 : decode cX9_ledger 62 = .ok (.getfield 26, 3) := by decide +kernel
theorem dX9_ledger_65 : decode cX9_ledger 65 = .ok (.iconst 1, 1) := by decide +kernel
theorem dX9_ledger_66 : decode cX9_ledger 66 = .ok (.invokevirtual 325, 3) := by decide +kernel
theorem dX9_ledger_69 : decode cX9_ledger 69 = .ok (.iadd, 1) := by decide +kernel
theorem dX9_ledger_70 : decode cX9_ledger 70 = .ok (.aload_n 0, 1) := by decide +kernel
theorem dX9_ledger_71 : decode cX9_ledger 71 = .ok (.getfield 26, 3) := by decide +kernel
theorem dX9_ledger_74 : decode cX9_ledger 74 = .ok (.iconst 2, 1) := by decide +kernel
theorem dX9_ledger_75 : decode cX9_ledger 75 = .ok (.invokevirtual 325, 3) := by decide +kernel
theorem dX9_ledger_78 : decode cX9_ledger 78 = .ok (.iadd, 1) := by decide +kernel
theorem dX9_ledger_79 : decode cX9_ledger 79 = .ok (.aload_n 0, 1) := by decide +kernel
theorem dX9_ledger_80 : decode cX9_ledger 80 = .ok (.getfield 26, 3) := by decide +kernel
theorem dX9_ledger_83 : decode cX9_ledger 83 = .ok (.iconst 3, 1) := by decide +kernel
theorem dX9_ledger_84 : decode cX9_ledger 84 = .ok (.invokevirtual 325, 3) := by decide +kernel
theorem dX9_ledger_87 : decode cX9_ledger 87 = .ok (.iadd, 1) := by decide +kernel
theorem dX9_ledger_88 : decode cX9_ledger 88 = .ok (.ireturn, 1) := by decide +kernel
theorem dX9_ledger_89 : decode cX9_ledger 89 = .ok (.aload_n 0, 1) := by decide +kernel
theorem dX9_ledger_90 : decode cX9_ledger 90 = .ok (.getfield 26, 3) := by decide +kernel
theorem dX9_ledger_93 : decode cX9_ledger 93 = .ok (.iconst 5, 1) := by decide +kernel
theorem dX9_ledger_94 : decode cX9_ledger 94 = .ok (.invokevirtual 325, 3) := by decide +kernel
theorem dX9_ledger_97 : decode cX9_ledger 97 = .ok (.ireturn, 1) := by decide +kernel
theorem dX9_ledger_98 : decode cX9_ledger 98 = .ok (.aload_n 0, 1) := by decide +kernel
theorem dX9_ledger_99 : decode cX9_ledger 99 = .ok (.getfield 26, 3) := by decide +kernel
theorem dX9_ledger_102 : decode cX9_ledger 102 = .ok (.bipush 6, 2) := by decide +kernel
theorem dX9_ledger_104 : decode cX9_ledger 104 = .ok (.invokevirtual 325, 3) := by decide +kernel
theorem dX9_ledger_107 : decode cX9_ledger 107 = .ok (.ireturn, 1) := by decide +kernel
theorem dX9_ledger_108 : decode cX9_ledger 108 = .ok (.aload_n 0, 1) := by decide +kernel
theorem dX9_ledger_109 : decode cX9_ledger 109 = .ok (.getfield 18, 3) := by decide +kernel
theorem dX9_ledger_112 : decode cX9_ledger 112 = .ok (.getfield 328, 3) := by decide +kernel
theorem dX9_ledger_115 : decode cX9_ledger 115 = .ok (.ireturn, 1) := by decide +kernel
theorem dX9_requireIndex_0 : decode cX9_requireIndex 0 = .ok (.iload_n 0, 1) := by decide +kernel
theorem dX9_requireIndex_1 : decode cX9_requireIndex 1 = .ok (.ifCond .lt 8, 3) := by decide +kernel
theorem dX9_requireIndex_4 : decode cX9_requireIndex 4 = .ok (.iload_n 0, 1) := by decide +kernel
theorem dX9_requireIndex_5 : decode cX9_requireIndex 5 = .ok (.iload_n 1, 1) := by decide +kernel
theorem dX9_requireIndex_6 : decode cX9_requireIndex 6 = .ok (.if_icmp .lt 14, 3) := by decide +kernel
theorem dX9_requireIndex_9 : decode cX9_requireIndex 9 = .ok (.new 331, 3) := by decide +kernel
theorem dX9_requireIndex_12 : decode cX9_requireIndex 12 = .ok (.dup, 1) := by decide +kernel
theorem dX9_requireIndex_13 : decode cX9_requireIndex 13 = .ok (.ldc_w 333, 3) := by decide +kernel
theorem dX9_requireIndex_16 : decode cX9_requireIndex 16 = .ok (.invokespecial 335, 3) := by decide +kernel
theorem dX9_requireIndex_19 : decode cX9_requireIndex 19 = .ok (.athrow, 1) := by decide +kernel
theorem dX9_requireIndex_20 : decode cX9_requireIndex 20 = .ok (.return_, 1) := by decide +kernel
theorem dX9_requireRange_0 : decode cX9_requireRange 0 = .ok (.iload_n 0, 1) := by decide +kernel
theorem dX9_requireRange_1 : decode cX9_requireRange 1 = .ok (.iload_n 1, 1) := by decide +kernel
theorem dX9_requireRange_2 : decode cX9_requireRange 2 = .ok (.if_icmp .lt 12, 3) := by decide +kernel
theorem dX9_requireRange_5 : decode cX9_requireRange 5 = .ok (.iload_n 0, 1) := by decide +kernel
theorem dX9_requireRange_6 : decode cX9_requireRange 6 = .ok (.iload_n 2, 1) := by decide +kernel
theorem dX9_requireRange_7 : decode cX9_requireRange 7 = .ok (.if_icmp .gt 7, 3) := by decide +kernel
theorem dX9_requireRange_10 : decode cX9_requireRange 10 = .ok (.iconst 1, 1) := by decide +kernel
theorem dX9_requireRange_11 : decode cX9_requireRange 11 = .ok (.goto 4, 3) := by decide +kernel
theorem dX9_requireRange_14 : decode cX9_requireRange 14 = .ok (.iconst 0, 1) := by decide +kernel
theorem dX9_requireRange_15 : decode cX9_requireRange 15 = .ok (.invokestatic 65, 3) := by decide +kernel
theorem dX9_requireRange_18 : decode cX9_requireRange 18 = .ok (.return_, 1) := by decide +kernel
theorem dX9_requireArgument_0 : decode cX9_requireArgument 0 = .ok (.iload_n 0, 1) := by decide +kernel
theorem dX9_requireArgument_1 : decode cX9_requireArgument 1 = .ok (.ifCond .ne 14, 3) := by decide +kernel
theorem dX9_requireArgument_4 : decode cX9_requireArgument 4 = .ok (.new 338, 3) := by decide +kernel
theorem dX9_requireArgument_7 : decode cX9_requireArgument 7 = .ok (.dup, 1) := by decide +kernel
theorem dX9_requireArgument_8 : decode cX9_requireArgument 8 = .ok (.ldc_w 340, 3) := by decide +kernel
theorem dX9_requireArgument_11 : decode cX9_requireArgument 11 = .ok (.invokespecial 342, 3) := by decide +kernel
theorem dX9_requireArgument_14 : decode cX9_requireArgument 14 = .ok (.athrow, 1) := by decide +kernel
theorem dX9_requireArgument_15 : decode cX9_requireArgument 15 = .ok (.return_, 1) := by decide +kernel
theorem dX9_requireState_0 : decode cX9_requireState 0 = .ok (.iload_n 0, 1) := by decide +kernel
theorem dX9_requireState_1 : decode cX9_requireState 1 = .ok (.ifCond .ne 14, 3) := by decide +kernel
theorem dX9_requireState_4 : decode cX9_requireState 4 = .ok (.new 343, 3) := by decide +kernel
theorem dX9_requireState_7 : decode cX9_requireState 7 = .ok (.dup, 1) := by decide +kernel
theorem dX9_requireState_8 : decode cX9_requireState 8 = .ok (.ldc_w 345, 3) := by decide +kernel
theorem dX9_requireState_11 : decode cX9_requireState 11 = .ok (.invokespecial 347, 3) := by decide +kernel
theorem dX9_requireState_14 : decode cX9_requireState 14 = .ok (.athrow, 1) := by decide +kernel
theorem dX9_requireState_15 : decode cX9_requireState 15 = .ok (.return_, 1) := by decide +kernel
theorem dX9_kindAt_0 : decode cX9_kindAt 0 = .ok (.iload_n 1, 1) := by decide +kernel
theorem dX9_kindAt_1 : decode cX9_kindAt 1 = .ok (.aload_n 0, 1) := by decide +kernel
theorem dX9_kindAt_2 : decode cX9_kindAt 2 = .ok (.getfield 11, 3) := by decide +kernel
theorem dX9_kindAt_5 : decode cX9_kindAt 5 = .ok (.arraylength, 1) := by decide +kernel
theorem dX9_kindAt_6 : decode cX9_kindAt 6 = .ok (.invokestatic 81, 3) := by decide +kernel
theorem dX9_kindAt_9 : decode cX9_kindAt 9 = .ok (.aload_n 0, 1) := by decide +kernel
theorem dX9_kindAt_10 : decode cX9_kindAt 10 = .ok (.getfield 11, 3) := by decide +kernel
theorem dX9_kindAt_13 : decode cX9_kindAt 13 = .ok (.iload_n 1, 1) := by decide +kernel
theorem dX9_kindAt_14 : decode cX9_kindAt 14 = .ok (.aaload, 1) := by decide +kernel
theorem dX9_kindAt_15 : decode cX9_kindAt 15 = .ok (.areturn, 1) := by decide +kernel
theorem dX9_kindOrNone_0 : decode cX9_kindOrNone 0 = .ok (.iload_n 1, 1) := by decide +kernel
theorem dX9_kindOrNone_1 : decode cX9_kindOrNone 1 = .ok (.iconst (-1), 1) := by decide +kernel
theorem dX9_kindOrNone_2 : decode cX9_kindOrNone 2 = .ok (.if_icmp .ne 7, 3) := by decide +kernel
theorem dX9_kindOrNone_5 : decode cX9_kindOrNone 5 = .ok (.aconst_null, 1) := by decide +kernel
theorem dX9_kindOrNone_6 : decode cX9_kindOrNone 6 = .ok (.goto 8, 3) := by decide +kernel
theorem dX9_kindOrNone_9 : decode cX9_kindOrNone 9 = .ok (.aload_n 0, 1) := by decide +kernel
theorem dX9_kindOrNone_10 : decode cX9_kindOrNone 10 = .ok (.iload_n 1, 1) := by decide +kernel
theorem dX9_kindOrNone_11 : decode cX9_kindOrNone 11 = .ok (.invokevirtual 30, 3) := by decide +kernel
theorem dX9_kindOrNone_14 : decode cX9_kindOrNone 14 = .ok (.areturn, 1) := by decide +kernel
theorem dX9_machineAt_0 : decode cX9_machineAt 0 = .ok (.iload_n 1, 1) := by decide +kernel
theorem dX9_machineAt_1 : decode cX9_machineAt 1 = .ok (.aload_n 0, 1) := by decide +kernel
theorem dX9_machineAt_2 : decode cX9_machineAt 2 = .ok (.getfield 18, 3) := by decide +kernel
theorem dX9_machineAt_5 : decode cX9_machineAt 5 = .ok (.getfield 102, 3) := by decide +kernel
theorem dX9_machineAt_8 : decode cX9_machineAt 8 = .ok (.invokestatic 81, 3) := by decide +kernel
theorem dX9_machineAt_11 : decode cX9_machineAt 11 = .ok (.aload_n 0, 1) := by decide +kernel
theorem dX9_machineAt_12 : decode cX9_machineAt 12 = .ok (.getfield 18, 3) := by decide +kernel
theorem dX9_machineAt_15 : decode cX9_machineAt 15 = .ok (.getfield 348, 3) := by decide +kernel
theorem dX9_machineAt_18 : decode cX9_machineAt 18 = .ok (.iload_n 1, 1) := by decide +kernel
theorem dX9_machineAt_19 : decode cX9_machineAt 19 = .ok (.aaload, 1) := by decide +kernel
theorem dX9_machineAt_20 : decode cX9_machineAt 20 = .ok (.areturn, 1) := by decide +kernel
theorem dX9_personAt_0 : decode cX9_personAt 0 = .ok (.iload_n 1, 1) := by decide +kernel
theorem dX9_personAt_1 : decode cX9_personAt 1 = .ok (.aload_n 0, 1) := by decide +kernel
theorem dX9_personAt_2 : decode cX9_personAt 2 = .ok (.getfield 18, 3) := by decide +kernel
theorem dX9_personAt_5 : decode cX9_personAt 5 = .ok (.getfield 114, 3) := by decide +kernel
theorem dX9_personAt_8 : decode cX9_personAt 8 = .ok (.invokestatic 81, 3) := by decide +kernel
theorem dX9_personAt_11 : decode cX9_personAt 11 = .ok (.aload_n 0, 1) := by decide +kernel
theorem dX9_personAt_12 : decode cX9_personAt 12 = .ok (.getfield 18, 3) := by decide +kernel
theorem dX9_personAt_15 : decode cX9_personAt 15 = .ok (.getfield 352, 3) := by decide +kernel
theorem dX9_personAt_18 : decode cX9_personAt 18 = .ok (.iload_n 1, 1) := by decide +kernel
theorem dX9_personAt_19 : decode cX9_personAt 19 = .ok (.aaload, 1) := by decide +kernel
theorem dX9_personAt_20 : decode cX9_personAt 20 = .ok (.areturn, 1) := by decide +kernel
theorem dX9_batchAt_0 : decode cX9_batchAt 0 = .ok (.iload_n 1, 1) := by decide +kernel
theorem dX9_batchAt_1 : decode cX9_batchAt 1 = .ok (.aload_n 0, 1) := by decide +kernel
theorem dX9_batchAt_2 : decode cX9_batchAt 2 = .ok (.getfield 26, 3) := by decide +kernel
theorem dX9_batchAt_5 : decode cX9_batchAt 5 = .ok (.getfield 224, 3) := by decide +kernel
theorem dX9_batchAt_8 : decode cX9_batchAt 8 = .ok (.invokestatic 81, 3) := by decide +kernel
theorem dX9_batchAt_11 : decode cX9_batchAt 11 = .ok (.aload_n 0, 1) := by decide +kernel
theorem dX9_batchAt_12 : decode cX9_batchAt 12 = .ok (.getfield 26, 3) := by decide +kernel
theorem dX9_batchAt_15 : decode cX9_batchAt 15 = .ok (.getfield 227, 3) := by decide +kernel
theorem dX9_batchAt_18 : decode cX9_batchAt 18 = .ok (.iload_n 1, 1) := by decide +kernel
theorem dX9_batchAt_19 : decode cX9_batchAt 19 = .ok (.aaload, 1) := by decide +kernel
theorem dX9_batchAt_20 : decode cX9_batchAt 20 = .ok (.areturn, 1) := by decide +kernel
theorem dX9_orderAt_0 : decode cX9_orderAt 0 = .ok (.iload_n 1, 1) := by decide +kernel
theorem dX9_orderAt_1 : decode cX9_orderAt 1 = .ok (.aload_n 0, 1) := by decide +kernel
theorem dX9_orderAt_2 : decode cX9_orderAt 2 = .ok (.getfield 26, 3) := by decide +kernel
theorem dX9_orderAt_5 : decode cX9_orderAt 5 = .ok (.getfield 239, 3) := by decide +kernel
theorem dX9_orderAt_8 : decode cX9_orderAt 8 = .ok (.invokestatic 81, 3) := by decide +kernel
theorem dX9_orderAt_11 : decode cX9_orderAt 11 = .ok (.aload_n 0, 1) := by decide +kernel
theorem dX9_orderAt_12 : decode cX9_orderAt 12 = .ok (.getfield 26, 3) := by decide +kernel
theorem dX9_orderAt_15 : decode cX9_orderAt 15 = .ok (.getfield 356, 3) := by decide +kernel
theorem dX9_orderAt_18 : decode cX9_orderAt 18 = .ok (.iload_n 1, 1) := by decide +kernel
theorem dX9_orderAt_19 : decode cX9_orderAt 19 = .ok (.aaload, 1) := by decide +kernel
theorem dX9_orderAt_20 : decode cX9_orderAt 20 = .ok (.areturn, 1) := by decide +kernel
theorem dX9_leadOf_0 : decode cX9_leadOf 0 = .ok (.iconst 0, 1) := by decide +kernel
theorem dX9_leadOf_1 : decode cX9_leadOf 1 = .ok (.istore_n 2, 1) := by decide +kernel
theorem dX9_leadOf_2 : decode cX9_leadOf 2 = .ok (.iload_n 2, 1) := by decide +kernel
theorem dX9_leadOf_3 : decode cX9_leadOf 3 = .ok (.aload_n 1, 1) := by decide +kernel
theorem dX9_leadOf_4 : decode cX9_leadOf 4 = .ok (.getfield 360, 3) := by decide +kernel
theorem dX9_leadOf_7 : decode cX9_leadOf 7 = .ok (.if_icmp .gt 27, 3) := by decide +kernel
theorem dX9_leadOf_10 : decode cX9_leadOf 10 = .ok (.iload_n 2, 1) := by decide +kernel
theorem dX9_leadOf_11 : decode cX9_leadOf 11 = .ok (.aload_n 0, 1) := by decide +kernel
theorem dX9_leadOf_12 : decode cX9_leadOf 12 = .ok (.getfield 11, 3) := by decide +kernel
theorem dX9_leadOf_15 : decode cX9_leadOf 15 = .ok (.arraylength, 1) := by decide +kernel
theorem dX9_leadOf_16 : decode cX9_leadOf 16 = .ok (.if_icmp .ge 18, 3) := by decide +kernel
theorem dX9_leadOf_19 : decode cX9_leadOf 19 = .ok (.aload_n 0, 1) := by decide +kernel
theorem dX9_leadOf_20 : decode cX9_leadOf 20 = .ok (.getfield 11, 3) := by decide +kernel
theorem dX9_leadOf_23 : decode cX9_leadOf 23 = .ok (.iload_n 2, 1) := by decide +kernel
theorem dX9_leadOf_24 : decode cX9_leadOf 24 = .ok (.aaload, 1) := by decide +kernel
theorem dX9_leadOf_25 : decode cX9_leadOf 25 = .ok (.invokevirtual 361, 3) := by decide +kernel
theorem dX9_leadOf_28 : decode cX9_leadOf 28 = .ok (.iinc 2 1, 3) := by decide +kernel
theorem dX9_leadOf_31 : decode cX9_leadOf 31 = .ok (.goto (-29), 3) := by decide +kernel
theorem dX9_leadOf_34 : decode cX9_leadOf 34 = .ok (.aload_n 1, 1) := by decide +kernel
theorem dX9_leadOf_35 : decode cX9_leadOf 35 = .ok (.getfield 364, 3) := by decide +kernel
theorem dX9_leadOf_38 : decode cX9_leadOf 38 = .ok (.iconst (-1), 1) := by decide +kernel
theorem dX9_leadOf_39 : decode cX9_leadOf 39 = .ok (.if_icmp .eq 7, 3) := by decide +kernel
theorem dX9_leadOf_42 : decode cX9_leadOf 42 = .ok (.iconst 1, 1) := by decide +kernel
theorem dX9_leadOf_43 : decode cX9_leadOf 43 = .ok (.goto 4, 3) := by decide +kernel
theorem dX9_leadOf_46 : decode cX9_leadOf 46 = .ok (.iconst 0, 1) := by decide +kernel
theorem dX9_leadOf_47 : decode cX9_leadOf 47 = .ok (.invokestatic 49, 3) := by decide +kernel
theorem dX9_leadOf_50 : decode cX9_leadOf 50 = .ok (.aload_n 1, 1) := by decide +kernel
theorem dX9_leadOf_51 : decode cX9_leadOf 51 = .ok (.getfield 364, 3) := by decide +kernel
theorem dX9_leadOf_54 : decode cX9_leadOf 54 = .ok (.ireturn, 1) := by decide +kernel
theorem dX9_placed_0 : decode cX9_placed 0 = .ok (.iconst 0, 1) := by decide +kernel
theorem dX9_placed_1 : decode cX9_placed 1 = .ok (.istore_n 3, 1) := by decide +kernel
theorem dX9_placed_2 : decode cX9_placed 2 = .ok (.iconst 0, 1) := by decide +kernel
theorem dX9_placed_3 : decode cX9_placed 3 = .ok (.istore 4, 2) := by decide +kernel
theorem dX9_placed_5 : decode cX9_placed 5 = .ok (.iload 4, 2) := by decide +kernel
theorem dX9_placed_7 : decode cX9_placed 7 = .ok (.bipush 60, 2) := by decide +kernel
theorem dX9_placed_9 : decode cX9_placed 9 = .ok (.if_icmp .ge 34, 3) := by decide +kernel
theorem dX9_placed_12 : decode cX9_placed 12 = .ok (.lload_n 0, 1) := by decide +kernel
theorem dX9_placed_13 : decode cX9_placed 13 = .ok (.iload 4, 2) := by decide +kernel
theorem dX9_placed_15 : decode cX9_placed 15 = .ok (.lshr, 1) := by decide +kernel
theorem dX9_placed_16 : decode cX9_placed 16 = .ok (.lconst 1, 1) := by decide +kernel
theorem dX9_placed_17 : decode cX9_placed 17 = .ok (.land, 1) := by decide +kernel
theorem dX9_placed_18 : decode cX9_placed 18 = .ok (.lconst 0, 1) := by decide +kernel
theorem dX9_placed_19 : decode cX9_placed 19 = .ok (.lcmp, 1) := by decide +kernel
theorem dX9_placed_20 : decode cX9_placed 20 = .ok (.ifCond .ne 6, 3) := by decide +kernel
theorem dX9_placed_23 : decode cX9_placed 23 = .ok (.goto 14, 3) := by decide +kernel
theorem dX9_placed_26 : decode cX9_placed 26 = .ok (.iload_n 3, 1) := by decide +kernel
theorem dX9_placed_27 : decode cX9_placed 27 = .ok (.iload_n 2, 1) := by decide +kernel
theorem dX9_placed_28 : decode cX9_placed 28 = .ok (.if_icmp .ne 6, 3) := by decide +kernel
theorem dX9_placed_31 : decode cX9_placed 31 = .ok (.iload 4, 2) := by decide +kernel
theorem dX9_placed_33 : decode cX9_placed 33 = .ok (.ireturn, 1) := by decide +kernel
theorem dX9_placed_34 : decode cX9_placed 34 = .ok (.iinc 3 1, 3) := by decide +kernel
theorem dX9_placed_37 : decode cX9_placed 37 = .ok (.iinc 4 1, 3) := by decide +kernel
theorem dX9_placed_40 : decode cX9_placed 40 = .ok (.goto (-35), 3) := by decide +kernel
theorem dX9_placed_43 : decode cX9_placed 43 = .ok (.iconst (-1), 1) := by decide +kernel
theorem dX9_placed_44 : decode cX9_placed 44 = .ok (.ireturn, 1) := by decide +kernel
theorem dX10_init_0 : decode cX10_init 0 = .ok (.aload_n 0, 1) := by decide +kernel
theorem dX10_init_1 : decode cX10_init 1 = .ok (.invokespecial 1, 3) := by decide +kernel
theorem dX10_init_4 : decode cX10_init 4 = .ok (.aload_n 0, 1) := by decide +kernel
theorem dX10_init_5 : decode cX10_init 5 = .ok (.bipush 12, 2) := by decide +kernel
theorem dX10_init_7 : decode cX10_init 7 = .ok (.newarray .int, 2) := by decide +kernel
theorem dX10_init_9 : decode cX10_init 9 = .ok (.putfield 7, 3) := by decide +kernel
theorem dX10_init_12 : decode cX10_init 12 = .ok (.aload_n 0, 1) := by decide +kernel
theorem dX10_init_13 : decode cX10_init 13 = .ok (.bipush 12, 2) := by decide +kernel
theorem dX10_init_15 : decode cX10_init 15 = .ok (.newarray .int, 2) := by decide +kernel
theorem dX10_init_17 : decode cX10_init 17 = .ok (.putfield 13, 3) := by decide +kernel
theorem dX10_init_20 : decode cX10_init 20 = .ok (.aload_n 0, 1) := by decide +kernel
theorem dX10_init_21 : decode cX10_init 21 = .ok (.bipush 12, 2) := by decide +kernel
theorem dX10_init_23 : decode cX10_init 23 = .ok (.newarray .int, 2) := by decide +kernel
theorem dX10_init_25 : decode cX10_init 25 = .ok (.putfield 16, 3) := by decide +kernel
theorem dX10_init_28 : decode cX10_init 28 = .ok (.aload_n 0, 1) := by decide +kernel
theorem dX10_init_29 : decode cX10_init 29 = .ok (.bipush 12, 2) := by decide +kernel
theorem dX10_init_31 : decode cX10_init 31 = .ok (.newarray .int, 2) := by decide +kernel
theorem dX10_init_33 : decode cX10_init 33 = .ok (.putfield 19, 3) := by decide +kernel
theorem dX10_init_36 : decode cX10_init 36 = .ok (.aload_n 0, 1) := by decide +kernel
theorem dX10_init_37 : decode cX10_init 37 = .ok (.bipush 36, 2) := by decide +kernel
theorem dX10_init_39 : decode cX10_init 39 = .ok (.newarray .int, 2) := by decide +kernel
theorem dX10_init_41 : decode cX10_init 41 = .ok (.putfield 22, 3) := by decide +kernel
theorem dX10_init_44 : decode cX10_init 44 = .ok (.aload_n 0, 1) := by decide +kernel
theorem dX10_init_45 : decode cX10_init 45 = .ok (.bipush 36, 2) := by decide +kernel
theorem dX10_init_47 : decode cX10_init 47 = .ok (.newarray .int, 2) := by decide +kernel
theorem dX10_init_49 : decode cX10_init 49 = .ok (.putfield 25, 3) := by decide +kernel
theorem dX10_init_52 : decode cX10_init 52 = .ok (.aload_n 0, 1) := by decide +kernel
theorem dX10_init_53 : decode cX10_init 53 = .ok (.bipush 36, 2) := by decide +kernel
theorem dX10_init_55 : decode cX10_init 55 = .ok (.newarray .int, 2) := by decide +kernel
theorem dX10_init_57 : decode cX10_init 57 = .ok (.putfield 28, 3) := by decide +kernel
theorem dX10_init_60 : decode cX10_init 60 = .ok (.aload_n 0, 1) := by decide +kernel
theorem dX10_init_61 : decode cX10_init 61 = .ok (.bipush 12, 2) := by decide +kernel
theorem dX10_init_63 : decode cX10_init 63 = .ok (.newarray .int, 2) := by decide +kernel
theorem dX10_init_65 : decode cX10_init 65 = .ok (.putfield 31, 3) := by decide +kernel
theorem dX10_init_68 : decode cX10_init 68 = .ok (.aload_n 0, 1) := by decide +kernel
theorem dX10_init_69 : decode cX10_init 69 = .ok (.bipush 48, 2) := by decide +kernel
theorem dX10_init_71 : decode cX10_init 71 = .ok (.newarray .int, 2) := by decide +kernel
theorem dX10_init_73 : decode cX10_init 73 = .ok (.putfield 34, 3) := by decide +kernel
theorem dX10_init_76 : decode cX10_init 76 = .ok (.aload_n 0, 1) := by decide +kernel
theorem dX10_init_77 : decode cX10_init 77 = .ok (.bipush 48, 2) := by decide +kernel
theorem dX10_init_79 : decode cX10_init 79 = .ok (.newarray .int, 2) := by decide +kernel
theorem dX10_init_81 : decode cX10_init 81 = .ok (.putfield 37, 3) := by decide +kernel
theorem dX10_init_84 : decode cX10_init 84 = .ok (.aload_n 0, 1) := by decide +kernel
theorem dX10_init_85 : decode cX10_init 85 = .ok (.bipush 48, 2) := by decide +kernel
theorem dX10_init_87 : decode cX10_init 87 = .ok (.newarray .int, 2) := by decide +kernel
theorem dX10_init_89 : decode cX10_init 89 = .ok (.putfield 40, 3) := by decide +kernel
theorem dX10_init_92 : decode cX10_init 92 = .ok (.aload_n 0, 1) := by decide +kernel
theorem dX10_init_93 : decode cX10_init 93 = .ok (.bipush 12, 2) := by decide +kernel
theorem dX10_init_95 : decode cX10_init 95 = .ok (.newarray .int, 2) := by decide +kernel
theorem dX10_init_97 : decode cX10_init 97 = .ok (.putfield 43, 3) := by decide +kernel
theorem dX10_init_100 : decode cX10_init 100 = .ok (.aload_n 0, 1) := by decide +kernel
theorem dX10_init_101 : decode cX10_init 101 = .ok (.iconst 4, 1) := by decide +kernel
theorem dX10_init_102 : decode cX10_init 102 = .ok (.newarray .int, 2) := by decide +kernel
theorem dX10_init_104 : decode cX10_init 104 = .ok (.putfield 46, 3) := by decide +kernel
theorem dX10_init_107 : decode cX10_init 107 = .ok (.aload_n 0, 1) := by decide +kernel
theorem dX10_init_108 : decode cX10_init 108 = .ok (.bipush 12, 2) := by decide +kernel
theorem dX10_init_110 : decode cX10_init 110 = .ok (.newarray .boolean, 2) := by decide +kernel
theorem dX10_init_112 : decode cX10_init 112 = .ok (.putfield 49, 3) := by decide +kernel
theorem dX10_init_115 : decode cX10_init 115 = .ok (.aload_n 0, 1) := by decide +kernel
theorem dX10_init_116 : decode cX10_init 116 = .ok (.bipush 60, 2) := by decide +kernel
theorem dX10_init_118 : decode cX10_init 118 = .ok (.newarray .int, 2) := by decide +kernel
theorem dX10_init_120 : decode cX10_init 120 = .ok (.putfield 53, 3) := by decide +kernel
theorem dX10_init_123 : decode cX10_init 123 = .ok (.aload_n 0, 1) := by decide +kernel
theorem dX10_init_124 : decode cX10_init 124 = .ok (.bipush 60, 2) := by decide +kernel
theorem dX10_init_126 : decode cX10_init 126 = .ok (.newarray .int, 2) := by decide +kernel
theorem dX10_init_128 : decode cX10_init 128 = .ok (.putfield 56, 3) := by decide +kernel
theorem dX10_init_131 : decode cX10_init 131 = .ok (.aload_n 0, 1) := by decide +kernel
theorem dX10_init_132 : decode cX10_init 132 = .ok (.bipush 60, 2) := by decide +kernel
theorem dX10_init_134 : decode cX10_init 134 = .ok (.newarray .int, 2) := by decide +kernel
theorem dX10_init_136 : decode cX10_init 136 = .ok (.putfield 59, 3) := by decide +kernel
theorem dX10_init_139 : decode cX10_init 139 = .ok (.aload_n 0, 1) := by decide +kernel
theorem dX10_init_140 : decode cX10_init 140 = .ok (.bipush 60, 2) := by decide +kernel
theorem dX10_init_142 : decode cX10_init 142 = .ok (.newarray .int, 2) := by decide +kernel
theorem dX10_init_144 : decode cX10_init 144 = .ok (.putfield 62, 3) := by decide +kernel
theorem dX10_init_147 : decode cX10_init 147 = .ok (.aload_n 0, 1) := by decide +kernel
theorem dX10_init_148 : decode cX10_init 148 = .ok (.bipush 60, 2) := by decide +kernel
theorem dX10_init_150 : decode cX10_init 150 = .ok (.newarray .int, 2) := by decide +kernel
theorem dX10_init_152 : decode cX10_init 152 = .ok (.putfield 65, 3) := by decide +kernel
theorem dX10_init_155 : decode cX10_init 155 = .ok (.aload_n 0, 1) := by decide +kernel
theorem dX10_init_156 : decode cX10_init 156 = .ok (.bipush 60, 2) := by decide +kernel
theorem dX10_init_158 : decode cX10_init 158 = .ok (.newarray .int, 2) := by decide +kernel
theorem dX10_init_160 : decode cX10_init 160 = .ok (.putfield 68, 3) := by decide +kernel
theorem dX10_init_163 : decode cX10_init 163 = .ok (.aload_n 0, 1) := by decide +kernel
theorem dX10_init_164 : decode cX10_init 164 = .ok (.bipush 60, 2) := by decide +kernel
theorem dX10_init_166 : decode cX10_init 166 = .ok (.newarray .boolean, 2) := by decide +kernel
theorem dX10_init_168 : decode cX10_init 168 = .ok (.putfield 71, 3) := by decide +kernel
theorem dX10_init_171 : decode cX10_init 171 = .ok (.aload_n 0, 1) := by decide +kernel
theorem dX10_init_172 : decode cX10_init 172 = .ok (.bipush 60, 2) := by decide +kernel
theorem dX10_init_174 : decode cX10_init 174 = .ok (.newarray .boolean, 2) := by decide +kernel
theorem dX10_init_176 : decode cX10_init 176 = .ok (.putfield 74, 3) := by decide +kernel
theorem dX10_init_179 : decode cX10_init 179 = .ok (.aload_n 0, 1) := by decide +kernel
theorem dX10_init_180 : decode cX10_init 180 = .ok (.bipush 60, 2) := by decide +kernel
theorem dX10_init_182 : decode cX10_init 182 = .ok (.newarray .int, 2) := by decide +kernel
theorem dX10_init_184 : decode cX10_init 184 = .ok (.putfield 77, 3) := by decide +kernel
theorem dX10_init_187 : decode cX10_init 187 = .ok (.aload_n 0, 1) := by decide +kernel
theorem dX10_init_188 : decode cX10_init 188 = .ok (.bipush 60, 2) := by decide +kernel
theorem dX10_init_190 : decode cX10_init 190 = .ok (.newarray .boolean, 2) := by decide +kernel
theorem dX10_init_192 : decode cX10_init 192 = .ok (.putfield 80, 3) := by decide +kernel
theorem dX10_init_195 : decode cX10_init 195 = .ok (.aload_n 0, 1) := by decide +kernel
theorem dX10_init_196 : decode cX10_init 196 = .ok (.bipush 60, 2) := by decide +kernel
theorem dX10_init_198 : decode cX10_init 198 = .ok (.newarray .int, 2) := by decide +kernel
theorem dX10_init_200 : decode cX10_init 200 = .ok (.putfield 83, 3) := by decide +kernel
theorem dX10_init_203 : decode cX10_init 203 = .ok (.aload_n 0, 1) := by decide +kernel
theorem dX10_init_204 : decode cX10_init 204 = .ok (.bipush 60, 2) := by decide +kernel
theorem dX10_init_206 : decode cX10_init 206 = .ok (.newarray .long, 2) := by decide +kernel
theorem dX10_init_208 : decode cX10_init 208 = .ok (.putfield 86, 3) := by decide +kernel
theorem dX10_init_211 : decode cX10_init 211 = .ok (.aload_n 0, 1) := by decide +kernel
theorem dX10_init_212 : decode cX10_init 212 = .ok (.bipush 6, 2) := by decide +kernel
theorem dX10_init_214 : decode cX10_init 214 = .ok (.newarray .int, 2) := by decide +kernel
theorem dX10_init_216 : decode cX10_init 216 = .ok (.putfield 90, 3) := by decide +kernel
theorem dX10_init_219 : decode cX10_init 219 = .ok (.aload_n 0, 1) := by decide +kernel
theorem dX10_init_220 : decode cX10_init 220 = .ok (.bipush 6, 2) := by decide +kernel
theorem dX10_init_222 : decode cX10_init 222 = .ok (.newarray .int, 2) := by decide +kernel
theorem dX10_init_224 : decode cX10_init 224 = .ok (.putfield 93, 3) := by decide +kernel
theorem dX10_init_227 : decode cX10_init 227 = .ok (.aload_n 0, 1) := by decide +kernel
theorem dX10_init_228 : decode cX10_init 228 = .ok (.bipush 6, 2) := by decide +kernel
theorem dX10_init_230 : decode cX10_init 230 = .ok (.newarray .int, 2) := by decide +kernel
theorem dX10_init_232 : decode cX10_init 232 = .ok (.putfield 96, 3) := by decide +kernel
theorem dX10_init_235 : decode cX10_init 235 = .ok (.aload_n 0, 1) := by decide +kernel
theorem dX10_init_236 : decode cX10_init 236 = .ok (.bipush 6, 2) := by decide +kernel
theorem dX10_init_238 : decode cX10_init 238 = .ok (.newarray .int, 2) := by decide +kernel
theorem dX10_init_240 : decode cX10_init 240 = .ok (.putfield 99, 3) := by decide +kernel
theorem dX10_init_243 : decode cX10_init 243 = .ok (.aload_n 0, 1) := by decide +kernel
theorem dX10_init_244 : decode cX10_init 244 = .ok (.bipush 6, 2) := by decide +kernel
theorem dX10_init_246 : decode cX10_init 246 = .ok (.newarray .int, 2) := by decide +kernel
theorem dX10_init_248 : decode cX10_init 248 = .ok (.putfield 102, 3) := by decide +kernel
theorem dX10_init_251 : decode cX10_init 251 = .ok (.aload_n 0, 1) := by decide +kernel
theorem dX10_init_252 : decode cX10_init 252 = .ok (.bipush 6, 2) := by decide +kernel
theorem dX10_init_254 : decode cX10_init 254 = .ok (.newarray .int, 2) := by decide +kernel
theorem dX10_init_256 : decode cX10_init 256 = .ok (.putfield 105, 3) := by decide +kernel
theorem dX10_init_259 : decode cX10_init 259 = .ok (.aload_n 0, 1) := by decide +kernel
theorem dX10_init_260 : decode cX10_init 260 = .ok (.bipush 6, 2) := by decide +kernel
theorem dX10_init_262 : decode cX10_init 262 = .ok (.newarray .int, 2) := by decide +kernel
theorem dX10_init_264 : decode cX10_init 264 = .ok (.putfield 108, 3) := by decide +kernel
theorem dX10_init_267 : decode cX10_init 267 = .ok (.aload_n 0, 1) := by decide +kernel
theorem dX10_init_268 : decode cX10_init 268 = .ok (.bipush 6, 2) := by decide +kernel
theorem dX10_init_270 : decode cX10_init 270 = .ok (.newarray .int, 2) := by decide +kernel
theorem dX10_init_272 : decode cX10_init 272 = .ok (.putfield 111, 3) := by decide +kernel
theorem dX10_init_275 : decode cX10_init 275 = .ok (.aload_n 0, 1) := by decide +kernel
theorem dX10_init_276 : decode cX10_init 276 = .ok (.bipush 6, 2) := by decide +kernel
theorem dX10_init_278 : decode cX10_init 278 = .ok (.newarray .int, 2) := by decide +kernel
theorem dX10_init_280 : decode cX10_init 280 = .ok (.putfield 114, 3) := by decide +kernel
theorem dX10_init_283 : decode cX10_init 283 = .ok (.aload_n 0, 1) := by decide +kernel
theorem dX10_init_284 : decode cX10_init 284 = .ok (.bipush 6, 2) := by decide +kernel
theorem dX10_init_286 : decode cX10_init 286 = .ok (.newarray .int, 2) := by decide +kernel
theorem dX10_init_288 : decode cX10_init 288 = .ok (.putfield 117, 3) := by decide +kernel
theorem dX10_init_291 : decode cX10_init 291 = .ok (.aload_n 0, 1) := by decide +kernel
theorem dX10_init_292 : decode cX10_init 292 = .ok (.bipush 6, 2) := by decide +kernel
theorem dX10_init_294 : decode cX10_init 294 = .ok (.newarray .int, 2) := by decide +kernel
theorem dX10_init_296 : decode cX10_init 296 = .ok (.putfield 120, 3) := by decide +kernel
theorem dX10_init_299 : decode cX10_init 299 = .ok (.aload_n 0, 1) := by decide +kernel
theorem dX10_init_300 : decode cX10_init 300 = .ok (.bipush 6, 2) := by decide +kernel
theorem dX10_init_302 : decode cX10_init 302 = .ok (.newarray .int, 2) := by decide +kernel
theorem dX10_init_304 : decode cX10_init 304 = .ok (.putfield 123, 3) := by decide +kernel
theorem dX10_init_307 : decode cX10_init 307 = .ok (.aload_n 0, 1) := by decide +kernel
theorem dX10_init_308 : decode cX10_init 308 = .ok (.bipush 6, 2) := by decide +kernel
theorem dX10_init_310 : decode cX10_init 310 = .ok (.newarray .int, 2) := by decide +kernel
theorem dX10_init_312 : decode cX10_init 312 = .ok (.putfield 126, 3) := by decide +kernel
theorem dX10_init_315 : decode cX10_init 315 = .ok (.aload_n 0, 1) := by decide +kernel
theorem dX10_init_316 : decode cX10_init 316 = .ok (.bipush 6, 2) := by decide +kernel
theorem dX10_init_318 : decode cX10_init 318 = .ok (.newarray .int, 2) := by decide +kernel
theorem dX10_init_320 : decode cX10_init 320 = .ok (.putfield 129, 3) := by decide +kernel
theorem dX10_init_323 : decode cX10_init 323 = .ok (.aload_n 0, 1) := by decide +kernel
theorem dX10_init_324 : decode cX10_init 324 = .ok (.bipush 6, 2) := by decide +kernel
theorem dX10_init_326 : decode cX10_init 326 = .ok (.newarray .int, 2) := by decide +kernel
theorem dX10_init_328 : decode cX10_init 328 = .ok (.putfield 132, 3) := by decide +kernel
theorem dX10_init_331 : decode cX10_init 331 = .ok (.aload_n 0, 1) := by decide +kernel
theorem dX10_init_332 : decode cX10_init 332 = .ok (.bipush 6, 2) := by decide +kernel
theorem dX10_init_334 : decode cX10_init 334 = .ok (.newarray .int, 2) := by decide +kernel
theorem dX10_init_336 : decode cX10_init 336 = .ok (.putfield 135, 3) := by decide +kernel
theorem dX10_init_339 : decode cX10_init 339 = .ok (.aload_n 0, 1) := by decide +kernel
theorem dX10_init_340 : decode cX10_init 340 = .ok (.bipush 24, 2) := by decide +kernel
theorem dX10_init_342 : decode cX10_init 342 = .ok (.newarray .int, 2) := by decide +kernel
theorem dX10_init_344 : decode cX10_init 344 = .ok (.putfield 138, 3) := by decide +kernel
theorem dX10_init_347 : decode cX10_init 347 = .ok (.aload_n 0, 1) := by decide +kernel
theorem dX10_init_348 : decode cX10_init 348 = .ok (.bipush 24, 2) := by decide +kernel
theorem dX10_init_350 : decode cX10_init 350 = .ok (.newarray .int, 2) := by decide +kernel
theorem dX10_init_352 : decode cX10_init 352 = .ok (.putfield 141, 3) := by decide +kernel
theorem dX10_init_355 : decode cX10_init 355 = .ok (.aload_n 0, 1) := by decide +kernel
theorem dX10_init_356 : decode cX10_init 356 = .ok (.bipush 10, 2) := by decide +kernel
theorem dX10_init_358 : decode cX10_init 358 = .ok (.newarray .int, 2) := by decide +kernel
theorem dX10_init_360 : decode cX10_init 360 = .ok (.putfield 144, 3) := by decide +kernel
theorem dX10_init_363 : decode cX10_init 363 = .ok (.aload_n 0, 1) := by decide +kernel
theorem dX10_init_364 : decode cX10_init 364 = .ok (.bipush 10, 2) := by decide +kernel
theorem dX10_init_366 : decode cX10_init 366 = .ok (.newarray .int, 2) := by decide +kernel
theorem dX10_init_368 : decode cX10_init 368 = .ok (.putfield 147, 3) := by decide +kernel
theorem dX10_init_371 : decode cX10_init 371 = .ok (.aload_n 0, 1) := by decide +kernel
theorem dX10_init_372 : decode cX10_init 372 = .ok (.bipush 10, 2) := by decide +kernel
theorem dX10_init_374 : decode cX10_init 374 = .ok (.newarray .int, 2) := by decide +kernel
theorem dX10_init_376 : decode cX10_init 376 = .ok (.putfield 150, 3) := by decide +kernel
theorem dX10_init_379 : decode cX10_init 379 = .ok (.aload_n 0, 1) := by decide +kernel
theorem dX10_init_380 : decode cX10_init 380 = .ok (.bipush 10, 2) := by decide +kernel
theorem dX10_init_382 : decode cX10_init 382 = .ok (.newarray .int, 2) := by decide +kernel
theorem dX10_init_384 : decode cX10_init 384 = .ok (.putfield 153, 3) := by decide +kernel
theorem dX10_init_387 : decode cX10_init 387 = .ok (.aload_n 0, 1) := by decide +kernel
theorem dX10_init_388 : decode cX10_init 388 = .ok (.bipush 10, 2) := by decide +kernel
theorem dX10_init_390 : decode cX10_init 390 = .ok (.newarray .int, 2) := by decide +kernel
theorem dX10_init_392 : decode cX10_init 392 = .ok (.putfield 156, 3) := by decide +kernel
theorem dX10_init_395 : decode cX10_init 395 = .ok (.aload_n 0, 1) := by decide +kernel
theorem dX10_init_396 : decode cX10_init 396 = .ok (.bipush 10, 2) := by decide +kernel
theorem dX10_init_398 : decode cX10_init 398 = .ok (.newarray .int, 2) := by decide +kernel
theorem dX10_init_400 : decode cX10_init 400 = .ok (.putfield 159, 3) := by decide +kernel
theorem dX10_init_403 : decode cX10_init 403 = .ok (.aload_n 0, 1) := by decide +kernel
theorem dX10_init_404 : decode cX10_init 404 = .ok (.iconst 3, 1) := by decide +kernel
theorem dX10_init_405 : decode cX10_init 405 = .ok (.newarray .int, 2) := by decide +kernel
theorem dX10_init_407 : decode cX10_init 407 = .ok (.putfield 162, 3) := by decide +kernel
theorem dX10_init_410 : decode cX10_init 410 = .ok (.aload_n 0, 1) := by decide +kernel
theorem dX10_init_411 : decode cX10_init 411 = .ok (.bipush 12, 2) := by decide +kernel
theorem dX10_init_413 : decode cX10_init 413 = .ok (.newarray .int, 2) := by decide +kernel
theorem dX10_init_415 : decode cX10_init 415 = .ok (.putfield 165, 3) := by decide +kernel
theorem dX10_init_418 : decode cX10_init 418 = .ok (.iconst 0, 1) := by decide +kernel
theorem dX10_init_419 : decode cX10_init 419 = .ok (.istore_n 1, 1) := by decide +kernel
theorem dX10_init_420 : decode cX10_init 420 = .ok (.iload_n 1, 1) := by decide +kernel
theorem dX10_init_421 : decode cX10_init 421 = .ok (.bipush 12, 2) := by decide +kernel
theorem dX10_init_423 : decode cX10_init 423 = .ok (.if_icmp .ge 17, 3) := by decide +kernel
theorem dX10_init_426 : decode cX10_init 426 = .ok (.aload_n 0, 1) := by decide +kernel
theorem dX10_init_427 : decode cX10_init 427 = .ok (.getfield 43, 3) := by decide +kernel
theorem dX10_init_430 : decode cX10_init 430 = .ok (.iload_n 1, 1) := by decide +kernel
theorem dX10_init_431 : decode cX10_init 431 = .ok (.bipush 20, 2) := by decide +kernel
theorem dX10_init_433 : decode cX10_init 433 = .ok (.iastore, 1) := by decide +kernel
theorem dX10_init_434 : decode cX10_init 434 = .ok (.iinc 1 1, 3) := by decide +kernel
theorem dX10_init_437 : decode cX10_init 437 = .ok (.goto (-17), 3) := by decide +kernel
theorem dX10_init_440 : decode cX10_init 440 = .ok (.iconst 0, 1) := by decide +kernel
theorem dX10_init_441 : decode cX10_init 441 = .ok (.istore_n 1, 1) := by decide +kernel
theorem dX10_init_442 : decode cX10_init 442 = .ok (.iload_n 1, 1) := by decide +kernel
theorem dX10_init_443 : decode cX10_init 443 = .ok (.iconst 4, 1) := by decide +kernel
theorem dX10_init_444 : decode cX10_init 444 = .ok (.if_icmp .ge 17, 3) := by decide +kernel
theorem dX10_init_447 : decode cX10_init 447 = .ok (.aload_n 0, 1) := by decide +kernel
theorem dX10_init_448 : decode cX10_init 448 = .ok (.getfield 46, 3) := by decide +kernel
theorem dX10_init_451 : decode cX10_init 451 = .ok (.iload_n 1, 1) := by decide +kernel
theorem dX10_init_452 : decode cX10_init 452 = .ok (.bipush 9, 2) := by decide +kernel
theorem dX10_init_454 : decode cX10_init 454 = .ok (.iastore, 1) := by decide +kernel
theorem dX10_init_455 : decode cX10_init 455 = .ok (.iinc 1 1, 3) := by decide +kernel
theorem dX10_init_458 : decode cX10_init 458 = .ok (.goto (-16), 3) := by decide +kernel
theorem dX10_init_461 : decode cX10_init 461 = .ok (.return_, 1) := by decide +kernel
theorem dX10_thrown_0 : decode cX10_thrown 0 = .ok (.aload_n 0, 1) := by decide +kernel
theorem dX10_thrown_1 : decode cX10_thrown 1 = .ok (.getfield 168, 3) := by decide +kernel
theorem dX10_thrown_4 : decode cX10_thrown 4 = .ok (.ireturn, 1) := by decide +kernel
theorem dX10_in_0 : decode cX10_in 0 = .ok (.iload_n 0, 1) := by decide +kernel
theorem dX10_in_1 : decode cX10_in 1 = .ok (.iload_n 1, 1) := by decide +kernel
theorem dX10_in_2 : decode cX10_in 2 = .ok (.if_icmp .lt 12, 3) := by decide +kernel
theorem dX10_in_5 : decode cX10_in 5 = .ok (.iload_n 0, 1) := by decide +kernel
theorem dX10_in_6 : decode cX10_in 6 = .ok (.iload_n 2, 1) := by decide +kernel
theorem dX10_in_7 : decode cX10_in 7 = .ok (.if_icmp .gt 7, 3) := by decide +kernel
theorem dX10_in_10 : decode cX10_in 10 = .ok (.iconst 1, 1) := by decide +kernel
theorem dX10_in_11 : decode cX10_in 11 = .ok (.goto 4, 3) := by decide +kernel
theorem dX10_in_14 : decode cX10_in 14 = .ok (.iconst 0, 1) := by decide +kernel
theorem dX10_in_15 : decode cX10_in 15 = .ok (.ireturn, 1) := by decide +kernel
theorem dX10_isKind_0 : decode cX10_isKind 0 = .ok (.iload_n 0, 1) := by decide +kernel
theorem dX10_isKind_1 : decode cX10_isKind 1 = .ok (.iconst 0, 1) := by decide +kernel
theorem dX10_isKind_2 : decode cX10_isKind 2 = .ok (.bipush 11, 2) := by decide +kernel
theorem dX10_isKind_4 : decode cX10_isKind 4 = .ok (.invokestatic 172, 3) := by decide +kernel
theorem dX10_isKind_7 : decode cX10_isKind 7 = .ok (.ireturn, 1) := by decide +kernel
theorem dX10_isBatch_0 : decode cX10_isBatch 0 = .ok (.iload_n 1, 1) := by decide +kernel
theorem dX10_isBatch_1 : decode cX10_isBatch 1 = .ok (.iconst 0, 1) := by decide +kernel
theorem dX10_isBatch_2 : decode cX10_isBatch 2 = .ok (.aload_n 0, 1) := by decide +kernel
theorem dX10_isBatch_3 : decode cX10_isBatch 3 = .ok (.getfield 176, 3) := by decide +kernel
theorem dX10_isBatch_6 : decode cX10_isBatch 6 = .ok (.iconst 1, 1) := by decide +kernel
theorem dX10_isBatch_7 : decode cX10_isBatch 7 = .ok (.isub, 1) := by decide +kernel
theorem dX10_isBatch_8 : decode cX10_isBatch 8 = .ok (.invokestatic 172, 3) := by decide +kernel
theorem dX10_isBatch_11 : decode cX10_isBatch 11 = .ok (.ireturn, 1) := by decide +kernel
theorem dX10_setBought_0 : decode cX10_setBought 0 = .ok (.aload_n 0, 1) := by decide +kernel
theorem dX10_setBought_1 : decode cX10_setBought 1 = .ok (.iload_n 1, 1) := by decide +kernel
theorem dX10_setBought_2 : decode cX10_setBought 2 = .ok (.invokestatic 179, 3) := by decide +kernel
theorem dX10_setBought_5 : decode cX10_setBought 5 = .ok (.ifCond .ne 7, 3) := by decide +kernel
theorem dX10_setBought_8 : decode cX10_setBought 8 = .ok (.iconst 1, 1) := by decide +kernel
theorem dX10_setBought_9 : decode cX10_setBought 9 = .ok (.goto 59, 3) := by decide +kernel
theorem dX10_setBought_12 : decode cX10_setBought 12 = .ok (.iload_n 2, 1) := by decide +kernel
theorem dX10_setBought_13 : decode cX10_setBought 13 = .ok (.iconst 1, 1) := by decide +kernel
theorem dX10_setBought_14 : decode cX10_setBought 14 = .ok (.bipush 99, 2) := by decide +kernel
theorem dX10_setBought_16 : decode cX10_setBought 16 = .ok (.invokestatic 172, 3) := by decide +kernel
theorem dX10_setBought_19 : decode cX10_setBought 19 = .ok (.ifCond .eq 13, 3) := by decide +kernel
theorem dX10_setBought_22 : decode cX10_setBought 22 = .ok (.iload_n 3, 1) := by decide +kernel
theorem dX10_setBought_23 : decode cX10_setBought 23 = .ok (.iconst 0, 1) := by decide +kernel
theorem dX10_setBought_24 : decode cX10_setBought 24 = .ok (.bipush 30, 2) := by decide +kernel
theorem dX10_setBought_26 : decode cX10_setBought 26 = .ok (.invokestatic 172, 3) := by decide +kernel
theorem dX10_setBought_29 : decode cX10_setBought 29 = .ok (.ifCond .ne 7, 3) := by decide +kernel
theorem dX10_setBought_32 : decode cX10_setBought 32 = .ok (.iconst 2, 1) := by decide +kernel
theorem dX10_setBought_33 : decode cX10_setBought 33 = .ok (.goto 35, 3) := by decide +kernel
theorem dX10_setBought_36 : decode cX10_setBought 36 = .ok (.aload_n 0, 1) := by decide +kernel
theorem dX10_setBought_37 : decode cX10_setBought 37 = .ok (.getfield 49, 3) := by decide +kernel
theorem dX10_setBought_40 : decode cX10_setBought 40 = .ok (.iload_n 1, 1) := by decide +kernel
theorem dX10_setBought_41 : decode cX10_setBought 41 = .ok (.baload, 1) := by decide +kernel
theorem dX10_setBought_42 : decode cX10_setBought 42 = .ok (.ifCond .ne 21, 3) := by decide +kernel
theorem dX10_setBought_45 : decode cX10_setBought 45 = .ok (.aload_n 0, 1) := by decide +kernel
theorem dX10_setBought_46 : decode cX10_setBought 46 = .ok (.getfield 19, 3) := by decide +kernel
theorem dX10_setBought_49 : decode cX10_setBought 49 = .ok (.iload_n 1, 1) := by decide +kernel
theorem dX10_setBought_50 : decode cX10_setBought 50 = .ok (.iaload, 1) := by decide +kernel
theorem dX10_setBought_51 : decode cX10_setBought 51 = .ok (.ifCond .gt 12, 3) := by decide +kernel
theorem dX10_setBought_54 : decode cX10_setBought 54 = .ok (.aload_n 0, 1) := by decide +kernel
theorem dX10_setBought_55 : decode cX10_setBought 55 = .ok (.getfield 31, 3) := by decide +kernel
theorem dX10_setBought_58 : decode cX10_setBought 58 = .ok (.iload_n 1, 1) := by decide +kernel
theorem dX10_setBought_59 : decode cX10_setBought 59 = .ok (.iaload, 1) := by decide +kernel
theorem dX10_setBought_60 : decode cX10_setBought 60 = .ok (.ifCond .le 7, 3) := by decide +kernel
theorem dX10_setBought_63 : decode cX10_setBought 63 = .ok (.iconst 3, 1) := by decide +kernel
theorem dX10_setBought_64 : decode cX10_setBought 64 = .ok (.goto 4, 3) := by decide +kernel
theorem dX10_setBought_67 : decode cX10_setBought 67 = .ok (.iconst 0, 1) := by decide +kernel
theorem dX10_setBought_68 : decode cX10_setBought 68 = .ok (.putfield 168, 3) := by decide +kernel
theorem dX10_setBought_71 : decode cX10_setBought 71 = .ok (.aload_n 0, 1) := by decide +kernel
theorem dX10_setBought_72 : decode cX10_setBought 72 = .ok (.getfield 168, 3) := by decide +kernel
theorem dX10_setBought_75 : decode cX10_setBought 75 = .ok (.ifCond .ne 24, 3) := by decide +kernel
theorem dX10_setBought_78 : decode cX10_setBought 78 = .ok (.aload_n 0, 1) := by decide +kernel
theorem dX10_setBought_79 : decode cX10_setBought 79 = .ok (.getfield 7, 3) := by decide +kernel
theorem dX10_setBought_82 : decode cX10_setBought 82 = .ok (.iload_n 1, 1) := by decide +kernel
theorem dX10_setBought_83 : decode cX10_setBought 83 = .ok (.iconst 1, 1) := by decide +kernel
theorem dX10_setBought_84 : decode cX10_setBought 84 = .ok (.iastore, 1) := by decide +kernel
theorem dX10_setBought_85 : decode cX10_setBought 85 = .ok (.aload_n 0, 1) := by decide +kernel
theorem dX10_setBought_86 : decode cX10_setBought 86 = .ok (.getfield 13, 3) := by decide +kernel
theorem dX10_setBought_89 : decode cX10_setBought 89 = .ok (.iload_n 1, 1) := by decide +kernel
theorem dX10_setBought_90 : decode cX10_setBought 90 = .ok (.iload_n 2, 1) := by decide +kernel
theorem dX10_setBought_91 : decode cX10_setBought 91 = .ok (.iastore, 1) := by decide +kernel
theorem dX10_setBought_92 : decode cX10_setBought 92 = .ok (.aload_n 0, 1) := by decide +kernel
theorem dX10_setBought_93 : decode cX10_setBought 93 = .ok (.getfield 16, 3) := by decide +kernel
theorem dX10_setBought_96 : decode cX10_setBought 96 = .ok (.iload_n 1, 1) := by decide +kernel
theorem dX10_setBought_97 : decode cX10_setBought 97 = .ok (.iload_n 3, 1) := by decide +kernel
theorem dX10_setBought_98 : decode cX10_setBought 98 = .ok (.iastore, 1) := by decide +kernel
theorem dX10_setBought_99 : decode cX10_setBought 99 = .ok (.return_, 1) := by decide +kernel
theorem dX10_addLine_0 : decode cX10_addLine 0 = .ok (.aload_n 0, 1) := by decide +kernel
theorem dX10_addLine_1 : decode cX10_addLine 1 = .ok (.iload_n 1, 1) := by decide +kernel
theorem dX10_addLine_2 : decode cX10_addLine 2 = .ok (.invokestatic 179, 3) := by decide +kernel
theorem dX10_addLine_5 : decode cX10_addLine 5 = .ok (.ifCond .eq 24, 3) := by decide +kernel
theorem dX10_addLine_8 : decode cX10_addLine 8 = .ok (.iload_n 2, 1) := by decide +kernel
theorem dX10_addLine_9 : decode cX10_addLine 9 = .ok (.invokestatic 179, 3) := by decide +kernel
theorem dX10_addLine_12 : decode cX10_addLine 12 = .ok (.ifCond .eq 17, 3) := by decide +kernel
theorem dX10_addLine_15 : decode cX10_addLine 15 = .ok (.iload 4, 2) := by decide +kernel
theorem dX10_addLine_17 : decode cX10_addLine 17 = .ok (.iconst (-1), 1) := by decide +kernel
theorem dX10_addLine_18 : decode cX10_addLine 18 = .ok (.if_icmp .eq 15, 3) := by decide +kernel
theorem dX10_addLine_21 : decode cX10_addLine 21 = .ok (.iload 4, 2) := by decide +kernel
theorem dX10_addLine_23 : decode cX10_addLine 23 = .ok (.invokestatic 179, 3) := by decide +kernel
theorem dX10_addLine_26 : decode cX10_addLine 26 = .ok (.ifCond .ne 7, 3) := by decide +kernel
theorem dX10_addLine_29 : decode cX10_addLine 29 = .ok (.iconst 1, 1) := by decide +kernel
theorem dX10_addLine_30 : decode cX10_addLine 30 = .ok (.goto 67, 3) := by decide +kernel
theorem dX10_addLine_33 : decode cX10_addLine 33 = .ok (.iload_n 2, 1) := by decide +kernel
theorem dX10_addLine_34 : decode cX10_addLine 34 = .ok (.iload_n 1, 1) := by decide +kernel
theorem dX10_addLine_35 : decode cX10_addLine 35 = .ok (.if_icmp .ge 24, 3) := by decide +kernel
theorem dX10_addLine_38 : decode cX10_addLine 38 = .ok (.iload 4, 2) := by decide +kernel
theorem dX10_addLine_40 : decode cX10_addLine 40 = .ok (.iload_n 1, 1) := by decide +kernel
theorem dX10_addLine_41 : decode cX10_addLine 41 = .ok (.if_icmp .ge 18, 3) := by decide +kernel
theorem dX10_addLine_44 : decode cX10_addLine 44 = .ok (.iload_n 2, 1) := by decide +kernel
theorem dX10_addLine_45 : decode cX10_addLine 45 = .ok (.iload 4, 2) := by decide +kernel
theorem dX10_addLine_47 : decode cX10_addLine 47 = .ok (.if_icmp .eq 12, 3) := by decide +kernel
theorem dX10_addLine_50 : decode cX10_addLine 50 = .ok (.iload_n 3, 1) := by decide +kernel
theorem dX10_addLine_51 : decode cX10_addLine 51 = .ok (.iconst 1, 1) := by decide +kernel
theorem dX10_addLine_52 : decode cX10_addLine 52 = .ok (.iconst 3, 1) := by decide +kernel
theorem dX10_addLine_53 : decode cX10_addLine 53 = .ok (.invokestatic 172, 3) := by decide +kernel
theorem dX10_addLine_56 : decode cX10_addLine 56 = .ok (.ifCond .ne 7, 3) := by decide +kernel
theorem dX10_addLine_59 : decode cX10_addLine 59 = .ok (.iconst 2, 1) := by decide +kernel
theorem dX10_addLine_60 : decode cX10_addLine 60 = .ok (.goto 37, 3) := by decide +kernel
theorem dX10_addLine_63 : decode cX10_addLine 63 = .ok (.aload_n 0, 1) := by decide +kernel
theorem dX10_addLine_64 : decode cX10_addLine 64 = .ok (.getfield 49, 3) := by decide +kernel
theorem dX10_addLine_67 : decode cX10_addLine 67 = .ok (.iload_n 1, 1) := by decide +kernel
theorem dX10_addLine_68 : decode cX10_addLine 68 = .ok (.baload, 1) := by decide +kernel
theorem dX10_addLine_69 : decode cX10_addLine 69 = .ok (.ifCond .ne 23, 3) := by decide +kernel
theorem dX10_addLine_72 : decode cX10_addLine 72 = .ok (.aload_n 0, 1) := by decide +kernel
theorem dX10_addLine_73 : decode cX10_addLine 73 = .ok (.getfield 7, 3) := by decide +kernel
theorem dX10_addLine_76 : decode cX10_addLine 76 = .ok (.iload_n 1, 1) := by decide +kernel
theorem dX10_addLine_77 : decode cX10_addLine 77 = .ok (.iaload, 1) := by decide +kernel
theorem dX10_addLine_78 : decode cX10_addLine 78 = .ok (.iconst 1, 1) := by decide +kernel
theorem dX10_addLine_79 : decode cX10_addLine 79 = .ok (.if_icmp .eq 13, 3) := by decide +kernel
theorem dX10_addLine_82 : decode cX10_addLine 82 = .ok (.aload_n 0, 1) := by decide +kernel
theorem dX10_addLine_83 : decode cX10_addLine 83 = .ok (.getfield 19, 3) := by decide +kernel
theorem dX10_addLine_86 : decode cX10_addLine 86 = .ok (.iload_n 1, 1) := by decide +kernel
theorem dX10_addLine_87 : decode cX10_addLine 87 = .ok (.iaload, 1) := by decide +kernel
theorem dX10_addLine_88 : decode cX10_addLine 88 = .ok (.iconst 3, 1) := by decide +kernel
theorem dX10_addLine_89 : decode cX10_addLine 89 = .ok (.if_icmp .ne 7, 3) := by decide +kernel
theorem dX10_addLine_92 : decode cX10_addLine 92 = .ok (.iconst 3, 1) := by decide +kernel
theorem dX10_addLine_93 : decode cX10_addLine 93 = .ok (.goto 4, 3) := by decide +kernel
theorem dX10_addLine_96 : decode cX10_addLine 96 = .ok (.iconst 0, 1) := by decide +kernel
theorem dX10_addLine_97 : decode cX10_addLine 97 = .ok (.putfield 168, 3) := by decide +kernel
theorem dX10_addLine_100 : decode cX10_addLine 100 = .ok (.aload_n 0, 1) := by decide +kernel
theorem dX10_addLine_101 : decode cX10_addLine 101 = .ok (.getfield 168, 3) := by decide +kernel
theorem dX10_addLine_104 : decode cX10_addLine 104 = .ok (.ifCond .le 5, 3) := by decide +kernel
theorem dX10_addLine_107 : decode cX10_addLine 107 = .ok (.iconst 0, 1) := by decide +kernel
theorem dX10_addLine_108 : decode cX10_addLine 108 = .ok (.ireturn, 1) := by decide +kernel
theorem dX10_addLine_109 : decode cX10_addLine 109 = .ok (.iconst 3, 1) := by decide +kernel
theorem dX10_addLine_110 : decode cX10_addLine 110 = .ok (.iload_n 1, 1) := by decide +kernel
theorem dX10_addLine_111 : decode cX10_addLine 111 = .ok (.imul, 1) := by decide +kernel
theorem dX10_addLine_112 : decode cX10_addLine 112 = .ok (.aload_n 0, 1) := by decide +kernel
theorem dX10_addLine_113 : decode cX10_addLine 113 = .ok (.getfield 19, 3) := by decide +kernel
theorem dX10_addLine_116 : decode cX10_addLine 116 = .ok (.iload_n 1, 1) := by decide +kernel
theorem dX10_addLine_117 : decode cX10_addLine 117 = .ok (.iaload, 1) := by decide +kernel
theorem dX10_addLine_118 : decode cX10_addLine 118 = .ok (.iadd, 1) := by decide +kernel
theorem dX10_addLine_119 : decode cX10_addLine 119 = .ok (.istore 5, 2) := by decide +kernel
theorem dX10_addLine_121 : decode cX10_addLine 121 = .ok (.aload_n 0, 1) := by decide +kernel
theorem dX10_addLine_122 : decode cX10_addLine 122 = .ok (.getfield 22, 3) := by decide +kernel
theorem dX10_addLine_125 : decode cX10_addLine 125 = .ok (.iload 5, 2) := by decide +kernel
theorem dX10_addLine_127 : decode cX10_addLine 127 = .ok (.iload_n 2, 1) := by decide +kernel
theorem dX10_addLine_128 : decode cX10_addLine 128 = .ok (.iastore, 1) := by decide +kernel
theorem dX10_addLine_129 : decode cX10_addLine 129 = .ok (.aload_n 0, 1) := by decide +kernel
theorem dX10_addLine_130 : decode cX10_addLine 130 = .ok (.getfield 25, 3) := by decide +kernel
theorem dX10_addLine_133 : decode cX10_addLine 133 = .ok (.iload 5, 2) := by decide +kernel
theorem dX10_addLine_135 : decode cX10_addLine 135 = .ok (.iload_n 3, 1) := by decide +kernel
theorem dX10_addLine_136 : decode cX10_addLine 136 = .ok (.iastore, 1) := by decide +kernel
theorem dX10_addLine_137 : decode cX10_addLine 137 = .ok (.aload_n 0, 1) := by decide +kernel
theorem dX10_addLine_138 : decode cX10_addLine 138 = .ok (.getfield 28, 3) := by decide +kernel
theorem dX10_addLine_141 : decode cX10_addLine 141 = .ok (.iload 5, 2) := by decide +kernel
theorem dX10_addLine_143 : decode cX10_addLine 143 = .ok (.iload 4, 2) := by decide +kernel
theorem dX10_addLine_145 : decode cX10_addLine 145 = .ok (.iastore, 1) := by decide +kernel
theorem dX10_addLine_146 : decode cX10_addLine 146 = .ok (.aload_n 0, 1) := by decide +kernel
theorem dX10_addLine_147 : decode cX10_addLine 147 = .ok (.getfield 19, 3) := by decide +kernel
theorem dX10_addLine_150 : decode cX10_addLine 150 = .ok (.iload_n 1, 1) := by decide +kernel
theorem dX10_addLine_151 : decode cX10_addLine 151 = .ok (.dup2, 1) := by decide +kernel
theorem dX10_addLine_152 : decode cX10_addLine 152 = .ok (.iaload, 1) := by decide +kernel
theorem dX10_addLine_153 : decode cX10_addLine 153 = .ok (.iconst 1, 1) := by decide +kernel
theorem dX10_addLine_154 : decode cX10_addLine 154 = .ok (.iadd, 1) := by decide +kernel
theorem dX10_addLine_155 : decode cX10_addLine 155 = .ok (.iastore, 1) := by decide +kernel
theorem dX10_addLine_156 : decode cX10_addLine 156 = .ok (.aload_n 0, 1) := by decide +kernel
theorem dX10_addLine_157 : decode cX10_addLine 157 = .ok (.getfield 19, 3) := by decide +kernel
theorem dX10_addLine_160 : decode cX10_addLine 160 = .ok (.iload_n 1, 1) := by decide +kernel
theorem dX10_addLine_161 : decode cX10_addLine 161 = .ok (.iaload, 1) := by decide +kernel
theorem dX10_addLine_162 : decode cX10_addLine 162 = .ok (.ireturn, 1) := by decide +kernel
theorem dX10_addOperation_0 : decode cX10_addOperation 0 = .ok (.aload_n 0, 1) := by decide +kernel
theorem dX10_addOperation_1 : decode cX10_addOperation 1 = .ok (.iload_n 1, 1) := by decide +kernel
theorem dX10_addOperation_2 : decode cX10_addOperation 2 = .ok (.invokestatic 179, 3) := by decide +kernel
theorem dX10_addOperation_5 : decode cX10_addOperation 5 = .ok (.ifCond .eq 21, 3) := by decide +kernel
theorem dX10_addOperation_8 : decode cX10_addOperation 8 = .ok (.iload_n 2, 1) := by decide +kernel
theorem dX10_addOperation_9 : decode cX10_addOperation 9 = .ok (.iconst 0, 1) := by decide +kernel
theorem dX10_addOperation_10 : decode cX10_addOperation 10 = .ok (.iconst 3, 1) := by decide +kernel
theorem dX10_addOperation_11 : decode cX10_addOperation 11 = .ok (.invokestatic 172, 3) := by decide +kernel
theorem dX10_addOperation_14 : decode cX10_addOperation 14 = .ok (.ifCond .eq 12, 3) := by decide +kernel
theorem dX10_addOperation_17 : decode cX10_addOperation 17 = .ok (.iload_n 3, 1) := by decide +kernel
theorem dX10_addOperation_18 : decode cX10_addOperation 18 = .ok (.iconst 0, 1) := by decide +kernel
theorem dX10_addOperation_19 : decode cX10_addOperation 19 = .ok (.iconst 3, 1) := by decide +kernel
theorem dX10_addOperation_20 : decode cX10_addOperation 20 = .ok (.invokestatic 172, 3) := by decide +kernel
theorem dX10_addOperation_23 : decode cX10_addOperation 23 = .ok (.ifCond .ne 7, 3) := by decide +kernel
theorem dX10_addOperation_26 : decode cX10_addOperation 26 = .ok (.iconst 1, 1) := by decide +kernel
theorem dX10_addOperation_27 : decode cX10_addOperation 27 = .ok (.goto 52, 3) := by decide +kernel
theorem dX10_addOperation_30 : decode cX10_addOperation 30 = .ok (.iload 4, 2) := by decide +kernel
theorem dX10_addOperation_32 : decode cX10_addOperation 32 = .ok (.iconst 1, 1) := by decide +kernel
theorem dX10_addOperation_33 : decode cX10_addOperation 33 = .ok (.bipush 9, 2) := by decide +kernel
theorem dX10_addOperation_35 : decode cX10_addOperation 35 = .ok (.invokestatic 172, 3) := by decide +kernel
theorem dX10_addOperation_38 : decode cX10_addOperation 38 = .ok (.ifCond .ne 7, 3) := by decide +kernel
theorem dX10_addOperation_41 : decode cX10_addOperation 41 = .ok (.iconst 2, 1) := by decide +kernel
theorem dX10_addOperation_42 : decode cX10_addOperation 42 = .ok (.goto 37, 3) := by decide +kernel
theorem dX10_addOperation_45 : decode cX10_addOperation 45 = .ok (.aload_n 0, 1) := by decide +kernel
theorem dX10_addOperation_46 : decode cX10_addOperation 46 = .ok (.getfield 49, 3) := by decide +kernel
theorem dX10_addOperation_49 : decode cX10_addOperation 49 = .ok (.iload_n 1, 1) := by decide +kernel
theorem dX10_addOperation_50 : decode cX10_addOperation 50 = .ok (.baload, 1) := by decide +kernel
theorem dX10_addOperation_51 : decode cX10_addOperation 51 = .ok (.ifCond .ne 23, 3) := by decide +kernel
theorem dX10_addOperation_54 : decode cX10_addOperation 54 = .ok (.aload_n 0, 1) := by decide +kernel
theorem dX10_addOperation_55 : decode cX10_addOperation 55 = .ok (.getfield 7, 3) := by decide +kernel
theorem dX10_addOperation_58 : decode cX10_addOperation 58 = .ok (.iload_n 1, 1) := by decide +kernel
theorem dX10_addOperation_59 : decode cX10_addOperation 59 = .ok (.iaload, 1) := by decide +kernel
theorem dX10_addOperation_60 : decode cX10_addOperation 60 = .ok (.iconst 1, 1) := by decide +kernel
theorem dX10_addOperation_61 : decode cX10_addOperation 61 = .ok (.if_icmp .eq 13, 3) := by decide +kernel
theorem dX10_addOperation_64 : decode cX10_addOperation 64 = .ok (.aload_n 0, 1) := by decide +kernel
theorem dX10_addOperation_65 : decode cX10_addOperation 65 = .ok (.getfield 31, 3) := by decide +kernel
theorem dX10_addOperation_68 : decode cX10_addOperation 68 = .ok (.iload_n 1, 1) := by decide +kernel
theorem dX10_addOperation_69 : decode cX10_addOperation 69 = .ok (.iaload, 1) := by decide +kernel
theorem dX10_addOperation_70 : decode cX10_addOperation 70 = .ok (.iconst 4, 1) := by decide +kernel
theorem dX10_addOperation_71 : decode cX10_addOperation 71 = .ok (.if_icmp .ne 7, 3) := by decide +kernel
theorem dX10_addOperation_74 : decode cX10_addOperation 74 = .ok (.iconst 3, 1) := by decide +kernel
theorem dX10_addOperation_75 : decode cX10_addOperation 75 = .ok (.goto 4, 3) := by decide +kernel
theorem dX10_addOperation_78 : decode cX10_addOperation 78 = .ok (.iconst 0, 1) := by decide +kernel
theorem dX10_addOperation_79 : decode cX10_addOperation 79 = .ok (.putfield 168, 3) := by decide +kernel
theorem dX10_addOperation_82 : decode cX10_addOperation 82 = .ok (.aload_n 0, 1) := by decide +kernel
theorem dX10_addOperation_83 : decode cX10_addOperation 83 = .ok (.getfield 168, 3) := by decide +kernel
theorem dX10_addOperation_86 : decode cX10_addOperation 86 = .ok (.ifCond .le 5, 3) := by decide +kernel
theorem dX10_addOperation_89 : decode cX10_addOperation 89 = .ok (.iconst 0, 1) := by decide +kernel
theorem dX10_addOperation_90 : decode cX10_addOperation 90 = .ok (.ireturn, 1) := by decide +kernel
theorem dX10_addOperation_91 : decode cX10_addOperation 91 = .ok (.iconst 4, 1) := by decide +kernel
theorem dX10_addOperation_92 : decode cX10_addOperation 92 = .ok (.iload_n 1, 1) := by decide +kernel
theorem dX10_addOperation_93 : decode cX10_addOperation 93 = .ok (.imul, 1) := by decide +kernel
theorem dX10_addOperation_94 : decode cX10_addOperation 94 = .ok (.aload_n 0, 1) := by decide +kernel
theorem dX10_addOperation_95 : decode cX10_addOperation 95 = .ok (.getfield 31, 3) := by decide +kernel
theorem dX10_addOperation_98 : decode cX10_addOperation 98 = .ok (.iload_n 1, 1) := by decide +kernel
theorem dX10_addOperation_99 : decode cX10_addOperation 99 = .ok (.iaload, 1) := by decide +kernel
theorem dX10_addOperation_100 : decode cX10_addOperation 100 = .ok (.iadd, 1) := by decide +kernel
theorem dX10_addOperation_101 : decode cX10_addOperation 101 = .ok (.istore 5, 2) := by decide +kernel
theorem dX10_addOperation_103 : decode cX10_addOperation 103 = .ok (.aload_n 0, 1) := by decide +kernel
theorem dX10_addOperation_104 : decode cX10_addOperation 104 = .ok (.getfield 34, 3) := by decide +kernel
theorem dX10_addOperation_107 : decode cX10_addOperation 107 = .ok (.iload 5, 2) := by decide +kernel
theorem dX10_addOperation_109 : decode cX10_addOperation 109 = .ok (.iload_n 2, 1) := by decide +kernel
theorem dX10_addOperation_110 : decode cX10_addOperation 110 = .ok (.iastore, 1) := by decide +kernel
theorem dX10_addOperation_111 : decode cX10_addOperation 111 = .ok (.aload_n 0, 1) := by decide +kernel
theorem dX10_addOperation_112 : decode cX10_addOperation 112 = .ok (.getfield 37, 3) := by decide +kernel
theorem dX10_addOperation_115 : decode cX10_addOperation 115 = .ok (.iload 5, 2) := by decide +kernel
theorem dX10_addOperation_117 : decode cX10_addOperation 117 = .ok (.iload_n 3, 1) := by decide +kernel
theorem dX10_addOperation_118 : decode cX10_addOperation 118 = .ok (.iastore, 1) := by decide +kernel
theorem dX10_addOperation_119 : decode cX10_addOperation 119 = .ok (.aload_n 0, 1) := by decide +kernel
theorem dX10_addOperation_120 : decode cX10_addOperation 120 = .ok (.getfield 40, 3) := by decide +kernel
theorem dX10_addOperation_123 : decode cX10_addOperation 123 = .ok (.iload 5, 2) := by decide +kernel
theorem dX10_addOperation_125 : decode cX10_addOperation 125 = .ok (.iload 4, 2) := by decide +kernel
theorem dX10_addOperation_127 : decode cX10_addOperation 127 = .ok (.iastore, 1) := by decide +kernel
theorem dX10_addOperation_128 : decode cX10_addOperation 128 = .ok (.aload_n 0, 1) := by decide +kernel
theorem dX10_addOperation_129 : decode cX10_addOperation 129 = .ok (.getfield 7, 3) := by decide +kernel
theorem dX10_addOperation_132 : decode cX10_addOperation 132 = .ok (.iload_n 1, 1) := by decide +kernel
theorem dX10_addOperation_133 : decode cX10_addOperation 133 = .ok (.iconst 2, 1) := by decide +kernel
theorem dX10_addOperation_134 : decode cX10_addOperation 134 = .ok (.iastore, 1) := by decide +kernel
theorem dX10_addOperation_135 : decode cX10_addOperation 135 = .ok (.aload_n 0, 1) := by decide +kernel
theorem dX10_addOperation_136 : decode cX10_addOperation 136 = .ok (.getfield 31, 3) := by decide +kernel
theorem dX10_addOperation_139 : decode cX10_addOperation 139 = .ok (.iload_n 1, 1) := by decide +kernel
theorem dX10_addOperation_140 : decode cX10_addOperation 140 = .ok (.dup2, 1) := by decide +kernel
theorem dX10_addOperation_141 : decode cX10_addOperation 141 = .ok (.iaload, 1) := by decide +kernel
theorem dX10_addOperation_142 : decode cX10_addOperation 142 = .ok (.iconst 1, 1) := by decide +kernel
theorem dX10_addOperation_143 : decode cX10_addOperation 143 = .ok (.iadd, 1) := by decide +kernel
theorem dX10_addOperation_144 : decode cX10_addOperation 144 = .ok (.iastore, 1) := by decide +kernel
theorem dX10_addOperation_145 : decode cX10_addOperation 145 = .ok (.aload_n 0, 1) := by decide +kernel
theorem dX10_addOperation_146 : decode cX10_addOperation 146 = .ok (.getfield 31, 3) := by decide +kernel
theorem dX10_addOperation_149 : decode cX10_addOperation 149 = .ok (.iload_n 1, 1) := by decide +kernel
theorem dX10_addOperation_150 : decode cX10_addOperation 150 = .ok (.iaload, 1) := by decide +kernel
theorem dX10_addOperation_151 : decode cX10_addOperation 151 = .ok (.ireturn, 1) := by decide +kernel
theorem dX10_setStore_0 : decode cX10_setStore 0 = .ok (.aload_n 0, 1) := by decide +kernel
theorem dX10_setStore_1 : decode cX10_setStore 1 = .ok (.iload_n 1, 1) := by decide +kernel
theorem dX10_setStore_2 : decode cX10_setStore 2 = .ok (.invokestatic 179, 3) := by decide +kernel
theorem dX10_setStore_5 : decode cX10_setStore 5 = .ok (.ifCond .ne 7, 3) := by decide +kernel
theorem dX10_setStore_8 : decode cX10_setStore 8 = .ok (.iconst 1, 1) := by decide +kernel
theorem dX10_setStore_9 : decode cX10_setStore 9 = .ok (.goto 18, 3) := by decide +kernel
theorem dX10_setStore_12 : decode cX10_setStore 12 = .ok (.iload_n 2, 1) := by decide +kernel
theorem dX10_setStore_13 : decode cX10_setStore 13 = .ok (.iconst 0, 1) := by decide +kernel
theorem dX10_setStore_14 : decode cX10_setStore 14 = .ok (.bipush 99, 2) := by decide +kernel
theorem dX10_setStore_16 : decode cX10_setStore 16 = .ok (.invokestatic 172, 3) := by decide +kernel
theorem dX10_setStore_19 : decode cX10_setStore 19 = .ok (.ifCond .ne 7, 3) := by decide +kernel
theorem dX10_setStore_22 : decode cX10_setStore 22 = .ok (.iconst 2, 1) := by decide +kernel
theorem dX10_setStore_23 : decode cX10_setStore 23 = .ok (.goto 4, 3) := by decide +kernel
theorem dX10_setStore_26 : decode cX10_setStore 26 = .ok (.iconst 0, 1) := by decide +kernel
theorem dX10_setStore_27 : decode cX10_setStore 27 = .ok (.putfield 168, 3) := by decide +kernel
theorem dX10_setStore_30 : decode cX10_setStore 30 = .ok (.aload_n 0, 1) := by decide +kernel
theorem dX10_setStore_31 : decode cX10_setStore 31 = .ok (.getfield 168, 3) := by decide +kernel
theorem dX10_setStore_34 : decode cX10_setStore 34 = .ok (.ifCond .le 5, 3) := by decide +kernel
theorem dX10_setStore_37 : decode cX10_setStore 37 = .ok (.iconst 0, 1) := by decide +kernel
theorem dX10_setStore_38 : decode cX10_setStore 38 = .ok (.ireturn, 1) := by decide +kernel
theorem dX10_setStore_39 : decode cX10_setStore 39 = .ok (.aload_n 0, 1) := by decide +kernel
theorem dX10_setStore_40 : decode cX10_setStore 40 = .ok (.getfield 43, 3) := by decide +kernel
theorem dX10_setStore_43 : decode cX10_setStore 43 = .ok (.iload_n 1, 1) := by decide +kernel
theorem dX10_setStore_44 : decode cX10_setStore 44 = .ok (.iaload, 1) := by decide +kernel
theorem dX10_setStore_45 : decode cX10_setStore 45 = .ok (.istore_n 3, 1) := by decide +kernel
theorem dX10_setStore_46 : decode cX10_setStore 46 = .ok (.aload_n 0, 1) := by decide +kernel
theorem dX10_setStore_47 : decode cX10_setStore 47 = .ok (.getfield 43, 3) := by decide +kernel
theorem dX10_setStore_50 : decode cX10_setStore 50 = .ok (.iload_n 1, 1) := by decide +kernel
theorem dX10_setStore_51 : decode cX10_setStore 51 = .ok (.iload_n 2, 1) := by decide +kernel
theorem dX10_setStore_52 : decode cX10_setStore 52 = .ok (.iastore, 1) := by decide +kernel
theorem dX10_setStore_53 : decode cX10_setStore 53 = .ok (.iload_n 3, 1) := by decide +kernel
theorem dX10_setStore_54 : decode cX10_setStore 54 = .ok (.ireturn, 1) := by decide +kernel
theorem dX10_setQueue_0 : decode cX10_setQueue 0 = .ok (.aload_n 0, 1) := by decide +kernel
theorem dX10_setQueue_1 : decode cX10_setQueue 1 = .ok (.iload_n 1, 1) := by decide +kernel
theorem dX10_setQueue_2 : decode cX10_setQueue 2 = .ok (.iconst 0, 1) := by decide +kernel
theorem dX10_setQueue_3 : decode cX10_setQueue 3 = .ok (.iconst 3, 1) := by decide +kernel
theorem dX10_setQueue_4 : decode cX10_setQueue 4 = .ok (.invokestatic 172, 3) := by decide +kernel
theorem dX10_setQueue_7 : decode cX10_setQueue 7 = .ok (.ifCond .ne 7, 3) := by decide +kernel
theorem dX10_setQueue_10 : decode cX10_setQueue 10 = .ok (.iconst 1, 1) := by decide +kernel
theorem dX10_setQueue_11 : decode cX10_setQueue 11 = .ok (.goto 18, 3) := by decide +kernel
theorem dX10_setQueue_14 : decode cX10_setQueue 14 = .ok (.iload_n 2, 1) := by decide +kernel
theorem dX10_setQueue_15 : decode cX10_setQueue 15 = .ok (.iconst 0, 1) := by decide +kernel
theorem dX10_setQueue_16 : decode cX10_setQueue 16 = .ok (.bipush 60, 2) := by decide +kernel
theorem dX10_setQueue_18 : decode cX10_setQueue 18 = .ok (.invokestatic 172, 3) := by decide +kernel
theorem dX10_setQueue_21 : decode cX10_setQueue 21 = .ok (.ifCond .ne 7, 3) := by decide +kernel
theorem dX10_setQueue_24 : decode cX10_setQueue 24 = .ok (.iconst 2, 1) := by decide +kernel
theorem dX10_setQueue_25 : decode cX10_setQueue 25 = .ok (.goto 4, 3) := by decide +kernel
theorem dX10_setQueue_28 : decode cX10_setQueue 28 = .ok (.iconst 0, 1) := by decide +kernel
theorem dX10_setQueue_29 : decode cX10_setQueue 29 = .ok (.putfield 168, 3) := by decide +kernel
theorem dX10_setQueue_32 : decode cX10_setQueue 32 = .ok (.aload_n 0, 1) := by decide +kernel
theorem dX10_setQueue_33 : decode cX10_setQueue 33 = .ok (.getfield 168, 3) := by decide +kernel
theorem dX10_setQueue_36 : decode cX10_setQueue 36 = .ok (.ifCond .le 5, 3) := by decide +kernel
theorem dX10_setQueue_39 : decode cX10_setQueue 39 = .ok (.iconst 0, 1) := by decide +kernel
theorem dX10_setQueue_40 : decode cX10_setQueue 40 = .ok (.ireturn, 1) := by decide +kernel
theorem dX10_setQueue_41 : decode cX10_setQueue 41 = .ok (.aload_n 0, 1) := by decide +kernel
theorem dX10_setQueue_42 : decode cX10_setQueue 42 = .ok (.getfield 46, 3) := by decide +kernel
theorem dX10_setQueue_45 : decode cX10_setQueue 45 = .ok (.iload_n 1, 1) := by decide +kernel
theorem dX10_setQueue_46 : decode cX10_setQueue 46 = .ok (.iaload, 1) := by decide +kernel
theorem dX10_setQueue_47 : decode cX10_setQueue 47 = .ok (.istore_n 3, 1) := by decide +kernel
theorem dX10_setQueue_48 : decode cX10_setQueue 48 = .ok (.aload_n 0, 1) := by decide +kernel
theorem dX10_setQueue_49 : decode cX10_setQueue 49 = .ok (.getfield 46, 3) := by decide +kernel
theorem dX10_setQueue_52 : decode cX10_setQueue 52 = .ok (.iload_n 1, 1) := by decide +kernel
theorem dX10_setQueue_53 : decode cX10_setQueue 53 = .ok (.iload_n 2, 1) := by decide +kernel
theorem dX10_setQueue_54 : decode cX10_setQueue 54 = .ok (.iastore, 1) := by decide +kernel
theorem dX10_setQueue_55 : decode cX10_setQueue 55 = .ok (.iload_n 3, 1) := by decide +kernel
theorem dX10_setQueue_56 : decode cX10_setQueue 56 = .ok (.ireturn, 1) := by decide +kernel
theorem dX10_addMachine_0 : decode cX10_addMachine 0 = .ok (.iload_n 1, 1) := by decide +kernel
theorem dX10_addMachine_1 : decode cX10_addMachine 1 = .ok (.iconst 1, 1) := by decide +kernel
theorem dX10_addMachine_2 : decode cX10_addMachine 2 = .ok (.bipush 15, 2) := by decide +kernel
theorem dX10_addMachine_4 : decode cX10_addMachine 4 = .ok (.invokestatic 172, 3) := by decide +kernel
theorem dX10_addMachine_7 : decode cX10_addMachine 7 = .ok (.ifCond .eq 48, 3) := by decide +kernel
theorem dX10_addMachine_10 : decode cX10_addMachine 10 = .ok (.iload_n 2, 1) := by decide +kernel
theorem dX10_addMachine_11 : decode cX10_addMachine 11 = .ok (.iconst 0, 1) := by decide +kernel
theorem dX10_addMachine_12 : decode cX10_addMachine 12 = .ok (.iconst 5, 1) := by decide +kernel
theorem dX10_addMachine_13 : decode cX10_addMachine 13 = .ok (.invokestatic 172, 3) := by decide +kernel
theorem dX10_addMachine_16 : decode cX10_addMachine 16 = .ok (.ifCond .eq 39, 3) := by decide +kernel
theorem dX10_addMachine_19 : decode cX10_addMachine 19 = .ok (.iload_n 3, 1) := by decide +kernel
theorem dX10_addMachine_20 : decode cX10_addMachine 20 = .ok (.iconst 0, 1) := by decide +kernel
theorem dX10_addMachine_21 : decode cX10_addMachine 21 = .ok (.bipush 9, 2) := by decide +kernel
theorem dX10_addMachine_23 : decode cX10_addMachine 23 = .ok (.invokestatic 172, 3) := by decide +kernel
theorem dX10_addMachine_26 : decode cX10_addMachine 26 = .ok (.ifCond .eq 29, 3) := by decide +kernel
theorem dX10_addMachine_29 : decode cX10_addMachine 29 = .ok (.iload 4, 2) := by decide +kernel
theorem dX10_addMachine_31 : decode cX10_addMachine 31 = .ok (.iconst 1, 1) := by decide +kernel
theorem dX10_addMachine_32 : decode cX10_addMachine 32 = .ok (.bipush 50, 2) := by decide +kernel
theorem dX10_addMachine_34 : decode cX10_addMachine 34 = .ok (.invokestatic 172, 3) := by decide +kernel
theorem dX10_addMachine_37 : decode cX10_addMachine 37 = .ok (.ifCond .eq 18, 3) := by decide +kernel
theorem dX10_addMachine_40 : decode cX10_addMachine 40 = .ok (.iload 5, 2) := by decide +kernel
theorem dX10_addMachine_42 : decode cX10_addMachine 42 = .ok (.iconst 1, 1) := by decide +kernel
theorem dX10_addMachine_43 : decode cX10_addMachine 43 = .ok (.bipush 9, 2) := by decide +kernel
theorem dX10_addMachine_45 : decode cX10_addMachine 45 = .ok (.invokestatic 172, 3) := by decide +kernel
theorem dX10_addMachine_48 : decode cX10_addMachine 48 = .ok (.ifCond .eq 7, 3) := by decide +kernel
theorem dX10_addMachine_51 : decode cX10_addMachine 51 = .ok (.iconst 1, 1) := by decide +kernel
theorem dX10_addMachine_52 : decode cX10_addMachine 52 = .ok (.goto 4, 3) := by decide +kernel
theorem dX10_addMachine_55 : decode cX10_addMachine 55 = .ok (.iconst 0, 1) := by decide +kernel
theorem dX10_addMachine_56 : decode cX10_addMachine 56 = .ok (.istore 7, 2) := by decide +kernel
theorem dX10_addMachine_58 : decode cX10_addMachine 58 = .ok (.aload_n 0, 1) := by decide +kernel
theorem dX10_addMachine_59 : decode cX10_addMachine 59 = .ok (.iload 6, 2) := by decide +kernel
theorem dX10_addMachine_61 : decode cX10_addMachine 61 = .ok (.iconst (-1), 1) := by decide +kernel
theorem dX10_addMachine_62 : decode cX10_addMachine 62 = .ok (.if_icmp .eq 15, 3) := by decide +kernel
theorem dX10_addMachine_65 : decode cX10_addMachine 65 = .ok (.iload 6, 2) := by decide +kernel
theorem dX10_addMachine_67 : decode cX10_addMachine 67 = .ok (.invokestatic 179, 3) := by decide +kernel
theorem dX10_addMachine_70 : decode cX10_addMachine 70 = .ok (.ifCond .ne 7, 3) := by decide +kernel
theorem dX10_addMachine_73 : decode cX10_addMachine 73 = .ok (.iconst 1, 1) := by decide +kernel
theorem dX10_addMachine_74 : decode cX10_addMachine 74 = .ok (.goto 26, 3) := by decide +kernel
theorem dX10_addMachine_77 : decode cX10_addMachine 77 = .ok (.iload 7, 2) := by decide +kernel
theorem dX10_addMachine_79 : decode cX10_addMachine 79 = .ok (.ifCond .ne 7, 3) := by decide +kernel
theorem dX10_addMachine_82 : decode cX10_addMachine 82 = .ok (.iconst 2, 1) := by decide +kernel
theorem dX10_addMachine_83 : decode cX10_addMachine 83 = .ok (.goto 17, 3) := by decide +kernel
theorem dX10_addMachine_86 : decode cX10_addMachine 86 = .ok (.aload_n 0, 1) := by decide +kernel
theorem dX10_addMachine_87 : decode cX10_addMachine 87 = .ok (.getfield 183, 3) := by decide +kernel
theorem dX10_addMachine_90 : decode cX10_addMachine 90 = .ok (.bipush 6, 2) := by decide +kernel
theorem dX10_addMachine_92 : decode cX10_addMachine 92 = .ok (.if_icmp .ne 7, 3) := by decide +kernel
theorem dX10_addMachine_95 : decode cX10_addMachine 95 = .ok (.iconst 3, 1) := by decide +kernel
theorem dX10_addMachine_96 : decode cX10_addMachine 96 = .ok (.goto 4, 3) := by decide +kernel
theorem dX10_addMachine_99 : decode cX10_addMachine 99 = .ok (.iconst 0, 1) := by decide +kernel
theorem dX10_addMachine_100 : decode cX10_addMachine 100 = .ok (.putfield 168, 3) := by decide +kernel
theorem dX10_addMachine_103 : decode cX10_addMachine 103 = .ok (.aload_n 0, 1) := by decide +kernel
theorem dX10_addMachine_104 : decode cX10_addMachine 104 = .ok (.getfield 168, 3) := by decide +kernel
theorem dX10_addMachine_107 : decode cX10_addMachine 107 = .ok (.ifCond .le 5, 3) := by decide +kernel
theorem dX10_addMachine_110 : decode cX10_addMachine 110 = .ok (.iconst 0, 1) := by decide +kernel
theorem dX10_addMachine_111 : decode cX10_addMachine 111 = .ok (.ireturn, 1) := by decide +kernel
theorem dX10_addMachine_112 : decode cX10_addMachine 112 = .ok (.aload_n 0, 1) := by decide +kernel
theorem dX10_addMachine_113 : decode cX10_addMachine 113 = .ok (.getfield 183, 3) := by decide +kernel
theorem dX10_addMachine_116 : decode cX10_addMachine 116 = .ok (.istore 8, 2) := by decide +kernel
theorem dX10_addMachine_118 : decode cX10_addMachine 118 = .ok (.aload_n 0, 1) := by decide +kernel
theorem dX10_addMachine_119 : decode cX10_addMachine 119 = .ok (.getfield 90, 3) := by decide +kernel
theorem dX10_addMachine_122 : decode cX10_addMachine 122 = .ok (.iload 8, 2) := by decide +kernel
theorem dX10_addMachine_124 : decode cX10_addMachine 124 = .ok (.iload_n 1, 1) := by decide +kernel
theorem dX10_addMachine_125 : decode cX10_addMachine 125 = .ok (.iastore, 1) := by decide +kernel
theorem dX10_addMachine_126 : decode cX10_addMachine 126 = .ok (.aload_n 0, 1) := by decide +kernel
theorem dX10_addMachine_127 : decode cX10_addMachine 127 = .ok (.getfield 93, 3) := by decide +kernel
theorem dX10_addMachine_130 : decode cX10_addMachine 130 = .ok (.iload 8, 2) := by decide +kernel
theorem dX10_addMachine_132 : decode cX10_addMachine 132 = .ok (.iload_n 2, 1) := by decide +kernel
theorem dX10_addMachine_133 : decode cX10_addMachine 133 = .ok (.iastore, 1) := by decide +kernel
theorem dX10_addMachine_134 : decode cX10_addMachine 134 = .ok (.aload_n 0, 1) := by decide +kernel
theorem dX10_addMachine_135 : decode cX10_addMachine 135 = .ok (.getfield 96, 3) := by decide +kernel
theorem dX10_addMachine_138 : decode cX10_addMachine 138 = .ok (.iload 8, 2) := by decide +kernel
theorem dX10_addMachine_140 : decode cX10_addMachine 140 = .ok (.iload_n 3, 1) := by decide +kernel
theorem dX10_addMachine_141 : decode cX10_addMachine 141 = .ok (.iastore, 1) := by decide +kernel
theorem dX10_addMachine_142 : decode cX10_addMachine 142 = .ok (.aload_n 0, 1) := by decide +kernel
theorem dX10_addMachine_143 : decode cX10_addMachine 143 = .ok (.getfield 99, 3) := by decide +kernel
theorem dX10_addMachine_146 : decode cX10_addMachine 146 = .ok (.iload 8, 2) := by decide +kernel
theorem dX10_addMachine_148 : decode cX10_addMachine 148 = .ok (.iload 4, 2) := by decide +kernel
theorem dX10_addMachine_150 : decode cX10_addMachine 150 = .ok (.iastore, 1) := by decide +kernel
theorem dX10_addMachine_151 : decode cX10_addMachine 151 = .ok (.aload_n 0, 1) := by decide +kernel
theorem dX10_addMachine_152 : decode cX10_addMachine 152 = .ok (.getfield 102, 3) := by decide +kernel
theorem dX10_addMachine_155 : decode cX10_addMachine 155 = .ok (.iload 8, 2) := by decide +kernel
theorem dX10_addMachine_157 : decode cX10_addMachine 157 = .ok (.iload 5, 2) := by decide +kernel
theorem dX10_addMachine_159 : decode cX10_addMachine 159 = .ok (.iastore, 1) := by decide +kernel
theorem dX10_addMachine_160 : decode cX10_addMachine 160 = .ok (.aload_n 0, 1) := by decide +kernel
theorem dX10_addMachine_161 : decode cX10_addMachine 161 = .ok (.getfield 105, 3) := by decide +kernel
theorem dX10_addMachine_164 : decode cX10_addMachine 164 = .ok (.iload 8, 2) := by decide +kernel
theorem dX10_addMachine_166 : decode cX10_addMachine 166 = .ok (.iload 6, 2) := by decide +kernel
theorem dX10_addMachine_168 : decode cX10_addMachine 168 = .ok (.iastore, 1) := by decide +kernel
theorem dX10_addMachine_169 : decode cX10_addMachine 169 = .ok (.aload_n 0, 1) := by decide +kernel
theorem dX10_addMachine_170 : decode cX10_addMachine 170 = .ok (.getfield 108, 3) := by decide +kernel
theorem dX10_addMachine_173 : decode cX10_addMachine 173 = .ok (.iload 8, 2) := by decide +kernel
theorem dX10_addMachine_175 : decode cX10_addMachine 175 = .ok (.iconst (-1), 1) := by decide +kernel
theorem dX10_addMachine_176 : decode cX10_addMachine 176 = .ok (.iastore, 1) := by decide +kernel
theorem dX10_addMachine_177 : decode cX10_addMachine 177 = .ok (.aload_n 0, 1) := by decide +kernel
theorem dX10_addMachine_178 : decode cX10_addMachine 178 = .ok (.getfield 114, 3) := by decide +kernel
theorem dX10_addMachine_181 : decode cX10_addMachine 181 = .ok (.iload 8, 2) := by decide +kernel
theorem dX10_addMachine_183 : decode cX10_addMachine 183 = .ok (.iconst (-1), 1) := by decide +kernel
theorem dX10_addMachine_184 : decode cX10_addMachine 184 = .ok (.iastore, 1) := by decide +kernel
theorem dX10_addMachine_185 : decode cX10_addMachine 185 = .ok (.aload_n 0, 1) := by decide +kernel
theorem dX10_addMachine_186 : decode cX10_addMachine 186 = .ok (.getfield 120, 3) := by decide +kernel
theorem dX10_addMachine_189 : decode cX10_addMachine 189 = .ok (.iload 8, 2) := by decide +kernel
theorem dX10_addMachine_191 : decode cX10_addMachine 191 = .ok (.iconst (-1), 1) := by decide +kernel
theorem dX10_addMachine_192 : decode cX10_addMachine 192 = .ok (.iastore, 1) := by decide +kernel
theorem dX10_addMachine_193 : decode cX10_addMachine 193 = .ok (.aload_n 0, 1) := by decide +kernel
theorem dX10_addMachine_194 : decode cX10_addMachine 194 = .ok (.dup, 1) := by decide +kernel
theorem dX10_addMachine_195 : decode cX10_addMachine 195 = .ok (.getfield 183, 3) := by decide +kernel
theorem dX10_addMachine_198 : decode cX10_addMachine 198 = .ok (.iconst 1, 1) := by decide +kernel
theorem dX10_addMachine_199 : decode cX10_addMachine 199 = .ok (.iadd, 1) := by decide +kernel
theorem dX10_addMachine_200 : decode cX10_addMachine 200 = .ok (.putfield 183, 3) := by decide +kernel
theorem dX10_addMachine_203 : decode cX10_addMachine 203 = .ok (.iload 8, 2) := by decide +kernel
theorem dX10_addMachine_205 : decode cX10_addMachine 205 = .ok (.ireturn, 1) := by decide +kernel
theorem dX10_addPerson_0 : decode cX10_addPerson 0 = .ok (.aload_n 0, 1) := by decide +kernel
theorem dX10_addPerson_1 : decode cX10_addPerson 1 = .ok (.iload_n 1, 1) := by decide +kernel
theorem dX10_addPerson_2 : decode cX10_addPerson 2 = .ok (.iconst 0, 1) := by decide +kernel
theorem dX10_addPerson_3 : decode cX10_addPerson 3 = .ok (.bipush 9, 2) := by decide +kernel
theorem dX10_addPerson_5 : decode cX10_addPerson 5 = .ok (.invokestatic 172, 3) := by decide +kernel
theorem dX10_addPerson_8 : decode cX10_addPerson 8 = .ok (.ifCond .eq 23, 3) := by decide +kernel
theorem dX10_addPerson_11 : decode cX10_addPerson 11 = .ok (.iload_n 2, 1) := by decide +kernel
theorem dX10_addPerson_12 : decode cX10_addPerson 12 = .ok (.iconst 0, 1) := by decide +kernel
theorem dX10_addPerson_13 : decode cX10_addPerson 13 = .ok (.bipush 23, 2) := by decide +kernel
theorem dX10_addPerson_15 : decode cX10_addPerson 15 = .ok (.invokestatic 172, 3) := by decide +kernel
theorem dX10_addPerson_18 : decode cX10_addPerson 18 = .ok (.ifCond .eq 13, 3) := by decide +kernel
theorem dX10_addPerson_21 : decode cX10_addPerson 21 = .ok (.iload_n 3, 1) := by decide +kernel
theorem dX10_addPerson_22 : decode cX10_addPerson 22 = .ok (.iconst 1, 1) := by decide +kernel
theorem dX10_addPerson_23 : decode cX10_addPerson 23 = .ok (.bipush 24, 2) := by decide +kernel
theorem dX10_addPerson_25 : decode cX10_addPerson 25 = .ok (.invokestatic 172, 3) := by decide +kernel
theorem dX10_addPerson_28 : decode cX10_addPerson 28 = .ok (.ifCond .ne 7, 3) := by decide +kernel
theorem dX10_addPerson_31 : decode cX10_addPerson 31 = .ok (.iconst 1, 1) := by decide +kernel
theorem dX10_addPerson_32 : decode cX10_addPerson 32 = .ok (.goto 17, 3) := by decide +kernel
theorem dX10_addPerson_35 : decode cX10_addPerson 35 = .ok (.aload_n 0, 1) := by decide +kernel
theorem dX10_addPerson_36 : decode cX10_addPerson 36 = .ok (.getfield 186, 3) := by decide +kernel
theorem dX10_addPerson_39 : decode cX10_addPerson 39 = .ok (.bipush 6, 2) := by decide +kernel
theorem dX10_addPerson_41 : decode cX10_addPerson 41 = .ok (.if_icmp .ne 7, 3) := by decide +kernel
theorem dX10_addPerson_44 : decode cX10_addPerson 44 = .ok (.iconst 2, 1) := by decide +kernel
theorem dX10_addPerson_45 : decode cX10_addPerson 45 = .ok (.goto 4, 3) := by decide +kernel
theorem dX10_addPerson_48 : decode cX10_addPerson 48 = .ok (.iconst 0, 1) := by decide +kernel
theorem dX10_addPerson_49 : decode cX10_addPerson 49 = .ok (.putfield 168, 3) := by decide +kernel
theorem dX10_addPerson_52 : decode cX10_addPerson 52 = .ok (.aload_n 0, 1) := by decide +kernel
theorem dX10_addPerson_53 : decode cX10_addPerson 53 = .ok (.getfield 168, 3) := by decide +kernel
theorem dX10_addPerson_56 : decode cX10_addPerson 56 = .ok (.ifCond .le 5, 3) := by decide +kernel
theorem dX10_addPerson_59 : decode cX10_addPerson 59 = .ok (.iconst 0, 1) := by decide +kernel
theorem dX10_addPerson_60 : decode cX10_addPerson 60 = .ok (.ireturn, 1) := by decide +kernel
theorem dX10_addPerson_61 : decode cX10_addPerson 61 = .ok (.aload_n 0, 1) := by decide +kernel
theorem dX10_addPerson_62 : decode cX10_addPerson 62 = .ok (.getfield 129, 3) := by decide +kernel
theorem dX10_addPerson_65 : decode cX10_addPerson 65 = .ok (.aload_n 0, 1) := by decide +kernel
theorem dX10_addPerson_66 : decode cX10_addPerson 66 = .ok (.getfield 186, 3) := by decide +kernel
theorem dX10_addPerson_69 : decode cX10_addPerson 69 = .ok (.iload_n 1, 1) := by decide +kernel
theorem dX10_addPerson_70 : decode cX10_addPerson 70 = .ok (.iastore, 1) := by decide +kernel
theorem dX10_addPerson_71 : decode cX10_addPerson 71 = .ok (.aload_n 0, 1) := by decide +kernel
theorem dX10_addPerson_72 : decode cX10_addPerson 72 = .ok (.getfield 132, 3) := by decide +kernel
theorem dX10_addPerson_75 : decode cX10_addPerson 75 = .ok (.aload_n 0, 1) := by decide +kernel
theorem dX10_addPerson_76 : decode cX10_addPerson 76 = .ok (.getfield 186, 3) := by decide +kernel
theorem dX10_addPerson_79 : decode cX10_addPerson 79 = .ok (.iload_n 2, 1) := by decide +kernel
theorem dX10_addPerson_80 : decode cX10_addPerson 80 = .ok (.iastore, 1) := by decide +kernel
theorem dX10_addPerson_81 : decode cX10_addPerson 81 = .ok (.aload_n 0, 1) := by decide +kernel
theorem dX10_addPerson_82 : decode cX10_addPerson 82 = .ok (.getfield 135, 3) := by decide +kernel
theorem dX10_addPerson_85 : decode cX10_addPerson 85 = .ok (.aload_n 0, 1) := by decide +kernel
theorem dX10_addPerson_86 : decode cX10_addPerson 86 = .ok (.getfield 186, 3) := by decide +kernel
theorem dX10_addPerson_89 : decode cX10_addPerson 89 = .ok (.iload_n 3, 1) := by decide +kernel
theorem dX10_addPerson_90 : decode cX10_addPerson 90 = .ok (.iastore, 1) := by decide +kernel
theorem dX10_addPerson_91 : decode cX10_addPerson 91 = .ok (.aload_n 0, 1) := by decide +kernel
theorem dX10_addPerson_92 : decode cX10_addPerson 92 = .ok (.dup, 1) := by decide +kernel
theorem dX10_addPerson_93 : decode cX10_addPerson 93 = .ok (.getfield 186, 3) := by decide +kernel
theorem dX10_addPerson_96 : decode cX10_addPerson 96 = .ok (.iconst 1, 1) := by decide +kernel
theorem dX10_addPerson_97 : decode cX10_addPerson 97 = .ok (.iadd, 1) := by decide +kernel
theorem dX10_addPerson_98 : decode cX10_addPerson 98 = .ok (.putfield 186, 3) := by decide +kernel
theorem dX10_addPerson_101 : decode cX10_addPerson 101 = .ok (.aload_n 0, 1) := by decide +kernel
theorem dX10_addPerson_102 : decode cX10_addPerson 102 = .ok (.getfield 186, 3) := by decide +kernel
theorem dX10_addPerson_105 : decode cX10_addPerson 105 = .ok (.iconst 1, 1) := by decide +kernel
theorem dX10_addPerson_106 : decode cX10_addPerson 106 = .ok (.isub, 1) := by decide +kernel
theorem dX10_addPerson_107 : decode cX10_addPerson 107 = .ok (.ireturn, 1) := by decide +kernel
theorem dX10_isPlaceOf_0 : decode cX10_isPlaceOf 0 = .ok (.iload_n 1, 1) := by decide +kernel
theorem dX10_isPlaceOf_1 : decode cX10_isPlaceOf 1 = .ok (.iconst 0, 1) := by decide +kernel
theorem dX10_isPlaceOf_2 : decode cX10_isPlaceOf 2 = .ok (.aload_n 0, 1) := by decide +kernel
theorem dX10_isPlaceOf_3 : decode cX10_isPlaceOf 3 = .ok (.getfield 186, 3) := by decide +kernel
theorem dX10_isPlaceOf_6 : decode cX10_isPlaceOf 6 = .ok (.iconst 1, 1) := by decide +kernel
theorem dX10_isPlaceOf_7 : decode cX10_isPlaceOf 7 = .ok (.isub, 1) := by decide +kernel
theorem dX10_isPlaceOf_8 : decode cX10_isPlaceOf 8 = .ok (.invokestatic 172, 3) := by decide +kernel
theorem dX10_isPlaceOf_11 : decode cX10_isPlaceOf 11 = .ok (.ifCond .eq 16, 3) := by decide +kernel
theorem dX10_isPlaceOf_14 : decode cX10_isPlaceOf 14 = .ok (.iload_n 2, 1) := by decide +kernel
theorem dX10_isPlaceOf_15 : decode cX10_isPlaceOf 15 = .ok (.iconst 0, 1) := by decide +kernel
theorem dX10_isPlaceOf_16 : decode cX10_isPlaceOf 16 = .ok (.iconst 3, 1) := by decide +kernel
theorem dX10_isPlaceOf_17 : decode cX10_isPlaceOf 17 = .ok (.invokestatic 172, 3) := by decide +kernel
theorem dX10_isPlaceOf_20 : decode cX10_isPlaceOf 20 = .ok (.ifCond .eq 7, 3) := by decide +kernel
theorem dX10_isPlaceOf_23 : decode cX10_isPlaceOf 23 = .ok (.iconst 1, 1) := by decide +kernel
theorem dX10_isPlaceOf_24 : decode cX10_isPlaceOf 24 = .ok (.goto 4, 3) := by decide +kernel
theorem dX10_isPlaceOf_27 : decode cX10_isPlaceOf 27 = .ok (.iconst 0, 1) := by decide +kernel
theorem dX10_isPlaceOf_28 : decode cX10_isPlaceOf 28 = .ok (.ireturn, 1) := by decide +kernel
theorem dX10_setLevel_0 : decode cX10_setLevel 0 = .ok (.aload_n 0, 1) := by decide +kernel
theorem dX10_setLevel_1 : decode cX10_setLevel 1 = .ok (.aload_n 0, 1) := by decide +kernel
theorem dX10_setLevel_2 : decode cX10_setLevel 2 = .ok (.iload_n 1, 1) := by decide +kernel
theorem dX10_setLevel_3 : decode cX10_setLevel 3 = .ok (.iload_n 2, 1) := by decide +kernel
theorem dX10_setLevel_4 : decode cX10_setLevel 4 = .ok (.invokevirtual 189, 3) := by decide +kernel
theorem dX10_setLevel_7 : decode cX10_setLevel 7 = .ok (.ifCond .ne 7, 3) := by decide +kernel
theorem dX10_setLevel_10 : decode cX10_setLevel 10 = .ok (.iconst 1, 1) := by decide +kernel
theorem dX10_setLevel_11 : decode cX10_setLevel 11 = .ok (.goto 17, 3) := by decide +kernel
theorem dX10_setLevel_14 : decode cX10_setLevel 14 = .ok (.iload_n 3, 1) := by decide +kernel
theorem dX10_setLevel_15 : decode cX10_setLevel 15 = .ok (.iconst 0, 1) := by decide +kernel
theorem dX10_setLevel_16 : decode cX10_setLevel 16 = .ok (.iconst 3, 1) := by decide +kernel
theorem dX10_setLevel_17 : decode cX10_setLevel 17 = .ok (.invokestatic 172, 3) := by decide +kernel
theorem dX10_setLevel_20 : decode cX10_setLevel 20 = .ok (.ifCond .ne 7, 3) := by decide +kernel
theorem dX10_setLevel_23 : decode cX10_setLevel 23 = .ok (.iconst 2, 1) := by decide +kernel
theorem dX10_setLevel_24 : decode cX10_setLevel 24 = .ok (.goto 4, 3) := by decide +kernel
theorem dX10_setLevel_27 : decode cX10_setLevel 27 = .ok (.iconst 0, 1) := by decide +kernel
theorem dX10_setLevel_28 : decode cX10_setLevel 28 = .ok (.putfield 168, 3) := by decide +kernel
theorem dX10_setLevel_31 : decode cX10_setLevel 31 = .ok (.aload_n 0, 1) := by decide +kernel
theorem dX10_setLevel_32 : decode cX10_setLevel 32 = .ok (.getfield 168, 3) := by decide +kernel
theorem dX10_setLevel_35 : decode cX10_setLevel 35 = .ok (.ifCond .le 5, 3) := by decide +kernel
theorem dX10_setLevel_38 : decode cX10_setLevel 38 = .ok (.iconst 0, 1) := by decide +kernel
theorem dX10_setLevel_39 : decode cX10_setLevel 39 = .ok (.ireturn, 1) := by decide +kernel
theorem dX10_setLevel_40 : decode cX10_setLevel 40 = .ok (.iconst 4, 1) := by decide +kernel
theorem dX10_setLevel_41 : decode cX10_setLevel 41 = .ok (.iload_n 1, 1) := by decide +kernel
theorem dX10_setLevel_42 : decode cX10_setLevel 42 = .ok (.imul, 1) := by decide +kernel
theorem dX10_setLevel_43 : decode cX10_setLevel 43 = .ok (.iload_n 2, 1) := by decide +kernel
theorem dX10_setLevel_44 : decode cX10_setLevel 44 = .ok (.iadd, 1) := by decide +kernel
theorem dX10_setLevel_45 : decode cX10_setLevel 45 = .ok (.istore 4, 2) := by decide +kernel
theorem dX10_setLevel_47 : decode cX10_setLevel 47 = .ok (.aload_n 0, 1) := by decide +kernel
theorem dX10_setLevel_48 : decode cX10_setLevel 48 = .ok (.getfield 138, 3) := by decide +kernel
theorem dX10_setLevel_51 : decode cX10_setLevel 51 = .ok (.iload 4, 2) := by decide +kernel
theorem dX10_setLevel_53 : decode cX10_setLevel 53 = .ok (.iaload, 1) := by decide +kernel
theorem dX10_setLevel_54 : decode cX10_setLevel 54 = .ok (.istore 5, 2) := by decide +kernel
theorem dX10_setLevel_56 : decode cX10_setLevel 56 = .ok (.aload_n 0, 1) := by decide +kernel
theorem dX10_setLevel_57 : decode cX10_setLevel 57 = .ok (.getfield 138, 3) := by decide +kernel
theorem dX10_setLevel_60 : decode cX10_setLevel 60 = .ok (.iload 4, 2) := by decide +kernel
theorem dX10_setLevel_62 : decode cX10_setLevel 62 = .ok (.iload_n 3, 1) := by decide +kernel
theorem dX10_setLevel_63 : decode cX10_setLevel 63 = .ok (.iastore, 1) := by decide +kernel
theorem dX10_setLevel_64 : decode cX10_setLevel 64 = .ok (.aload_n 0, 1) := by decide +kernel
theorem dX10_setLevel_65 : decode cX10_setLevel 65 = .ok (.getfield 141, 3) := by decide +kernel
theorem dX10_setLevel_68 : decode cX10_setLevel 68 = .ok (.iload 4, 2) := by decide +kernel
theorem dX10_setLevel_70 : decode cX10_setLevel 70 = .ok (.iconst 0, 1) := by decide +kernel
theorem dX10_setLevel_71 : decode cX10_setLevel 71 = .ok (.iastore, 1) := by decide +kernel
theorem dX10_setLevel_72 : decode cX10_setLevel 72 = .ok (.iload 5, 2) := by decide +kernel
theorem dX10_setLevel_74 : decode cX10_setLevel 74 = .ok (.ireturn, 1) := by decide +kernel
theorem dX10_isOnShift_0 : decode cX10_isOnShift 0 = .ok (.aload_n 0, 1) := by decide +kernel
theorem dX10_isOnShift_1 : decode cX10_isOnShift 1 = .ok (.getfield 193, 3) := by decide +kernel
theorem dX10_isOnShift_4 : decode cX10_isOnShift 4 = .ok (.bipush 24, 2) := by decide +kernel
theorem dX10_isOnShift_6 : decode cX10_isOnShift 6 = .ok (.irem, 1) := by decide +kernel
theorem dX10_isOnShift_7 : decode cX10_isOnShift 7 = .ok (.aload_n 0, 1) := by decide +kernel
theorem dX10_isOnShift_8 : decode cX10_isOnShift 8 = .ok (.getfield 132, 3) := by decide +kernel
theorem dX10_isOnShift_11 : decode cX10_isOnShift 11 = .ok (.iload_n 1, 1) := by decide +kernel
theorem dX10_isOnShift_12 : decode cX10_isOnShift 12 = .ok (.iaload, 1) := by decide +kernel
theorem dX10_isOnShift_13 : decode cX10_isOnShift 13 = .ok (.isub, 1) := by decide +kernel
theorem dX10_isOnShift_14 : decode cX10_isOnShift 14 = .ok (.bipush 24, 2) := by decide +kernel
theorem dX10_isOnShift_16 : decode cX10_isOnShift 16 = .ok (.iadd, 1) := by decide +kernel
theorem dX10_isOnShift_17 : decode cX10_isOnShift 17 = .ok (.bipush 24, 2) := by decide +kernel
theorem dX10_isOnShift_19 : decode cX10_isOnShift 19 = .ok (.irem, 1) := by decide +kernel
theorem dX10_isOnShift_20 : decode cX10_isOnShift 20 = .ok (.aload_n 0, 1) := by decide +kernel
theorem dX10_isOnShift_21 : decode cX10_isOnShift 21 = .ok (.getfield 135, 3) := by decide +kernel
theorem dX10_isOnShift_24 : decode cX10_isOnShift 24 = .ok (.iload_n 1, 1) := by decide +kernel
theorem dX10_isOnShift_25 : decode cX10_isOnShift 25 = .ok (.iaload, 1) := by decide +kernel
theorem dX10_isOnShift_26 : decode cX10_isOnShift 26 = .ok (.if_icmp .ge 7, 3) := by decide +kernel
theorem dX10_isOnShift_29 : decode cX10_isOnShift 29 = .ok (.iconst 1, 1) := by decide +kernel
theorem dX10_isOnShift_30 : decode cX10_isOnShift 30 = .ok (.goto 4, 3) := by decide +kernel
theorem dX10_isOnShift_33 : decode cX10_isOnShift 33 = .ok (.iconst 0, 1) := by decide +kernel
theorem dX10_isOnShift_34 : decode cX10_isOnShift 34 = .ok (.ireturn, 1) := by decide +kernel
theorem dX10_machineAt_0 : decode cX10_machineAt 0 = .ok (.iconst 0, 1) := by decide +kernel
theorem dX10_machineAt_1 : decode cX10_machineAt 1 = .ok (.istore_n 2, 1) := by decide +kernel
theorem dX10_machineAt_2 : decode cX10_machineAt 2 = .ok (.iload_n 2, 1) := by decide +kernel
theorem dX10_machineAt_3 : decode cX10_machineAt 3 = .ok (.aload_n 0, 1) := by decide +kernel
theorem dX10_machineAt_4 : decode cX10_machineAt 4 = .ok (.getfield 183, 3) := by decide +kernel
theorem dX10_machineAt_7 : decode cX10_machineAt 7 = .ok (.if_icmp .ge 21, 3) := by decide +kernel
theorem dX10_machineAt_10 : decode cX10_machineAt 10 = .ok (.aload_n 0, 1) := by decide +kernel
theorem dX10_machineAt_11 : decode cX10_machineAt 11 = .ok (.getfield 114, 3) := by decide +kernel
theorem dX10_machineAt_14 : decode cX10_machineAt 14 = .ok (.iload_n 2, 1) := by decide +kernel
theorem dX10_machineAt_15 : decode cX10_machineAt 15 = .ok (.iaload, 1) := by decide +kernel
theorem dX10_machineAt_16 : decode cX10_machineAt 16 = .ok (.iload_n 1, 1) := by decide +kernel
theorem dX10_machineAt_17 : decode cX10_machineAt 17 = .ok (.if_icmp .ne 5, 3) := by decide +kernel
theorem dX10_machineAt_20 : decode cX10_machineAt 20 = .ok (.iload_n 2, 1) := by decide +kernel
theorem dX10_machineAt_21 : decode cX10_machineAt 21 = .ok (.ireturn, 1) := by decide +kernel
theorem dX10_machineAt_22 : decode cX10_machineAt 22 = .ok (.iinc 2 1, 3) := by decide +kernel
theorem dX10_machineAt_25 : decode cX10_machineAt 25 = .ok (.goto (-23), 3) := by decide +kernel
theorem dX10_machineAt_28 : decode cX10_machineAt 28 = .ok (.iconst (-1), 1) := by decide +kernel
theorem dX10_machineAt_29 : decode cX10_machineAt 29 = .ok (.ireturn, 1) := by decide +kernel
theorem dX10_workOf_0 : decode cX10_workOf 0 = .ok (.aload_n 0, 1) := by decide +kernel
theorem dX10_workOf_1 : decode cX10_workOf 1 = .ok (.getfield 34, 3) := by decide +kernel
theorem dX10_workOf_4 : decode cX10_workOf 4 = .ok (.iconst 4, 1) := by decide +kernel
theorem dX10_workOf_5 : decode cX10_workOf 5 = .ok (.aload_n 0, 1) := by decide +kernel
theorem dX10_workOf_6 : decode cX10_workOf 6 = .ok (.getfield 53, 3) := by decide +kernel
theorem dX10_workOf_9 : decode cX10_workOf 9 = .ok (.iload_n 1, 1) := by decide +kernel
theorem dX10_workOf_10 : decode cX10_workOf 10 = .ok (.iaload, 1) := by decide +kernel
theorem dX10_workOf_11 : decode cX10_workOf 11 = .ok (.imul, 1) := by decide +kernel
theorem dX10_workOf_12 : decode cX10_workOf 12 = .ok (.aload_n 0, 1) := by decide +kernel
theorem dX10_workOf_13 : decode cX10_workOf 13 = .ok (.getfield 65, 3) := by decide +kernel
theorem dX10_workOf_16 : decode cX10_workOf 16 = .ok (.iload_n 1, 1) := by decide +kernel
theorem dX10_workOf_17 : decode cX10_workOf 17 = .ok (.iaload, 1) := by decide +kernel
theorem dX10_workOf_18 : decode cX10_workOf 18 = .ok (.iadd, 1) := by decide +kernel
theorem dX10_workOf_19 : decode cX10_workOf 19 = .ok (.iaload, 1) := by decide +kernel
theorem dX10_workOf_20 : decode cX10_workOf 20 = .ok (.ireturn, 1) := by decide +kernel
theorem dX10_waiting_0 : decode cX10_waiting 0 = .ok (.iconst 0, 1) := by decide +kernel
theorem dX10_waiting_1 : decode cX10_waiting 1 = .ok (.istore_n 2, 1) := by decide +kernel
theorem dX10_waiting_2 : decode cX10_waiting 2 = .ok (.iconst 0, 1) := by decide +kernel
theorem dX10_waiting_3 : decode cX10_waiting 3 = .ok (.istore_n 3, 1) := by decide +kernel
theorem dX10_waiting_4 : decode cX10_waiting 4 = .ok (.iload_n 3, 1) := by decide +kernel
theorem dX10_waiting_5 : decode cX10_waiting 5 = .ok (.aload_n 0, 1) := by decide +kernel
theorem dX10_waiting_6 : decode cX10_waiting 6 = .ok (.getfield 176, 3) := by decide +kernel
theorem dX10_waiting_9 : decode cX10_waiting 9 = .ok (.if_icmp .ge 36, 3) := by decide +kernel
theorem dX10_waiting_12 : decode cX10_waiting 12 = .ok (.iload_n 2, 1) := by decide +kernel
theorem dX10_waiting_13 : decode cX10_waiting 13 = .ok (.aload_n 0, 1) := by decide +kernel
theorem dX10_waiting_14 : decode cX10_waiting 14 = .ok (.getfield 62, 3) := by decide +kernel
theorem dX10_waiting_17 : decode cX10_waiting 17 = .ok (.iload_n 3, 1) := by decide +kernel
theorem dX10_waiting_18 : decode cX10_waiting 18 = .ok (.iaload, 1) := by decide +kernel
theorem dX10_waiting_19 : decode cX10_waiting 19 = .ok (.iconst 1, 1) := by decide +kernel
theorem dX10_waiting_20 : decode cX10_waiting 20 = .ok (.if_icmp .ne 16, 3) := by decide +kernel
theorem dX10_waiting_23 : decode cX10_waiting 23 = .ok (.aload_n 0, 1) := by decide +kernel
theorem dX10_waiting_24 : decode cX10_waiting 24 = .ok (.iload_n 3, 1) := by decide +kernel
theorem dX10_waiting_25 : decode cX10_waiting 25 = .ok (.invokevirtual 196, 3) := by decide +kernel
theorem dX10_waiting_28 : decode cX10_waiting 28 = .ok (.iload_n 1, 1) := by decide +kernel
theorem dX10_waiting_29 : decode cX10_waiting 29 = .ok (.if_icmp .ne 7, 3) := by decide +kernel
theorem dX10_waiting_32 : decode cX10_waiting 32 = .ok (.iconst 1, 1) := by decide +kernel
theorem dX10_waiting_33 : decode cX10_waiting 33 = .ok (.goto 4, 3) := by decide +kernel
theorem dX10_waiting_36 : decode cX10_waiting 36 = .ok (.iconst 0, 1) := by decide +kernel
theorem dX10_waiting_37 : decode cX10_waiting 37 = .ok (.iadd, 1) := by decide +kernel
theorem dX10_waiting_38 : decode cX10_waiting 38 = .ok (.istore_n 2, 1) := by decide +kernel
theorem dX10_waiting_39 : decode cX10_waiting 39 = .ok (.iinc 3 1, 3) := by decide +kernel
theorem dX10_waiting_42 : decode cX10_waiting 42 = .ok (.goto (-38), 3) := by decide +kernel
theorem dX10_waiting_45 : decode cX10_waiting 45 = .ok (.iload_n 2, 1) := by decide +kernel
theorem dX10_waiting_46 : decode cX10_waiting 46 = .ok (.ireturn, 1) := by decide +kernel
theorem dX10_hasRoom_0 : decode cX10_hasRoom 0 = .ok (.aload_n 0, 1) := by decide +kernel
theorem dX10_hasRoom_1 : decode cX10_hasRoom 1 = .ok (.iload_n 1, 1) := by decide +kernel
theorem dX10_hasRoom_2 : decode cX10_hasRoom 2 = .ok (.invokevirtual 200, 3) := by decide +kernel
theorem dX10_hasRoom_5 : decode cX10_hasRoom 5 = .ok (.aload_n 0, 1) := by decide +kernel
theorem dX10_hasRoom_6 : decode cX10_hasRoom 6 = .ok (.getfield 46, 3) := by decide +kernel
theorem dX10_hasRoom_9 : decode cX10_hasRoom 9 = .ok (.iload_n 1, 1) := by decide +kernel
theorem dX10_hasRoom_10 : decode cX10_hasRoom 10 = .ok (.iaload, 1) := by decide +kernel
theorem dX10_hasRoom_11 : decode cX10_hasRoom 11 = .ok (.if_icmp .ge 7, 3) := by decide +kernel
theorem dX10_hasRoom_14 : decode cX10_hasRoom 14 = .ok (.iconst 1, 1) := by decide +kernel
theorem dX10_hasRoom_15 : decode cX10_hasRoom 15 = .ok (.goto 4, 3) := by decide +kernel
theorem dX10_hasRoom_18 : decode cX10_hasRoom 18 = .ok (.iconst 0, 1) := by decide +kernel
theorem dX10_hasRoom_19 : decode cX10_hasRoom 19 = .ok (.ireturn, 1) := by decide +kernel
theorem dX10_inStore_0 : decode cX10_inStore 0 = .ok (.iconst 0, 1) := by decide +kernel
theorem dX10_inStore_1 : decode cX10_inStore 1 = .ok (.istore_n 2, 1) := by decide +kernel
theorem dX10_inStore_2 : decode cX10_inStore 2 = .ok (.iconst 0, 1) := by decide +kernel
theorem dX10_inStore_3 : decode cX10_inStore 3 = .ok (.istore_n 3, 1) := by decide +kernel
theorem dX10_inStore_4 : decode cX10_inStore 4 = .ok (.iload_n 3, 1) := by decide +kernel
theorem dX10_inStore_5 : decode cX10_inStore 5 = .ok (.aload_n 0, 1) := by decide +kernel
theorem dX10_inStore_6 : decode cX10_inStore 6 = .ok (.getfield 176, 3) := by decide +kernel
theorem dX10_inStore_9 : decode cX10_inStore 9 = .ok (.if_icmp .ge 42, 3) := by decide +kernel
theorem dX10_inStore_12 : decode cX10_inStore 12 = .ok (.iload_n 2, 1) := by decide +kernel
theorem dX10_inStore_13 : decode cX10_inStore 13 = .ok (.aload_n 0, 1) := by decide +kernel
theorem dX10_inStore_14 : decode cX10_inStore 14 = .ok (.getfield 62, 3) := by decide +kernel
theorem dX10_inStore_17 : decode cX10_inStore 17 = .ok (.iload_n 3, 1) := by decide +kernel
theorem dX10_inStore_18 : decode cX10_inStore 18 = .ok (.iaload, 1) := by decide +kernel
theorem dX10_inStore_19 : decode cX10_inStore 19 = .ok (.iconst 3, 1) := by decide +kernel
theorem dX10_inStore_20 : decode cX10_inStore 20 = .ok (.if_icmp .ne 22, 3) := by decide +kernel
theorem dX10_inStore_23 : decode cX10_inStore 23 = .ok (.aload_n 0, 1) := by decide +kernel
theorem dX10_inStore_24 : decode cX10_inStore 24 = .ok (.getfield 53, 3) := by decide +kernel
theorem dX10_inStore_27 : decode cX10_inStore 27 = .ok (.iload_n 3, 1) := by decide +kernel
theorem dX10_inStore_28 : decode cX10_inStore 28 = .ok (.iaload, 1) := by decide +kernel
theorem dX10_inStore_29 : decode cX10_inStore 29 = .ok (.iload_n 1, 1) := by decide +kernel
theorem dX10_inStore_30 : decode cX10_inStore 30 = .ok (.if_icmp .ne 12, 3) := by decide +kernel
theorem dX10_inStore_33 : decode cX10_inStore 33 = .ok (.aload_n 0, 1) := by decide +kernel
theorem dX10_inStore_34 : decode cX10_inStore 34 = .ok (.getfield 56, 3) := by decide +kernel
theorem dX10_inStore_37 : decode cX10_inStore 37 = .ok (.iload_n 3, 1) := by decide +kernel
theorem dX10_inStore_38 : decode cX10_inStore 38 = .ok (.iaload, 1) := by decide +kernel
theorem dX10_inStore_39 : decode cX10_inStore 39 = .ok (.goto 4, 3) := by decide +kernel
theorem dX10_inStore_42 : decode cX10_inStore 42 = .ok (.iconst 0, 1) := by decide +kernel
theorem dX10_inStore_43 : decode cX10_inStore 43 = .ok (.iadd, 1) := by decide +kernel
theorem dX10_inStore_44 : decode cX10_inStore 44 = .ok (.istore_n 2, 1) := by decide +kernel
theorem dX10_inStore_45 : decode cX10_inStore 45 = .ok (.iinc 3 1, 3) := by decide +kernel
theorem dX10_inStore_48 : decode cX10_inStore 48 = .ok (.goto (-44), 3) := by decide +kernel
theorem dX10_inStore_51 : decode cX10_inStore 51 = .ok (.iload_n 2, 1) := by decide +kernel
theorem dX10_inStore_52 : decode cX10_inStore 52 = .ok (.ireturn, 1) := by decide +kernel
theorem dX10_promisedOf_0 : decode cX10_promisedOf 0 = .ok (.iconst 0, 1) := by decide +kernel
theorem dX10_promisedOf_1 : decode cX10_promisedOf 1 = .ok (.istore_n 2, 1) := by decide +kernel
theorem dX10_promisedOf_2 : decode cX10_promisedOf 2 = .ok (.iconst 0, 1) := by decide +kernel
theorem dX10_promisedOf_3 : decode cX10_promisedOf 3 = .ok (.istore_n 3, 1) := by decide +kernel
theorem dX10_promisedOf_4 : decode cX10_promisedOf 4 = .ok (.iload_n 3, 1) := by decide +kernel
theorem dX10_promisedOf_5 : decode cX10_promisedOf 5 = .ok (.aload_n 0, 1) := by decide +kernel
theorem dX10_promisedOf_6 : decode cX10_promisedOf 6 = .ok (.getfield 203, 3) := by decide +kernel
theorem dX10_promisedOf_9 : decode cX10_promisedOf 9 = .ok (.if_icmp .ge 42, 3) := by decide +kernel
theorem dX10_promisedOf_12 : decode cX10_promisedOf 12 = .ok (.iload_n 2, 1) := by decide +kernel
theorem dX10_promisedOf_13 : decode cX10_promisedOf 13 = .ok (.aload_n 0, 1) := by decide +kernel
theorem dX10_promisedOf_14 : decode cX10_promisedOf 14 = .ok (.getfield 144, 3) := by decide +kernel
theorem dX10_promisedOf_17 : decode cX10_promisedOf 17 = .ok (.iload_n 3, 1) := by decide +kernel
theorem dX10_promisedOf_18 : decode cX10_promisedOf 18 = .ok (.iaload, 1) := by decide +kernel
theorem dX10_promisedOf_19 : decode cX10_promisedOf 19 = .ok (.iload_n 1, 1) := by decide +kernel
theorem dX10_promisedOf_20 : decode cX10_promisedOf 20 = .ok (.if_icmp .ne 22, 3) := by decide +kernel
theorem dX10_promisedOf_23 : decode cX10_promisedOf 23 = .ok (.aload_n 0, 1) := by decide +kernel
theorem dX10_promisedOf_24 : decode cX10_promisedOf 24 = .ok (.getfield 156, 3) := by decide +kernel
theorem dX10_promisedOf_27 : decode cX10_promisedOf 27 = .ok (.iload_n 3, 1) := by decide +kernel
theorem dX10_promisedOf_28 : decode cX10_promisedOf 28 = .ok (.iaload, 1) := by decide +kernel
theorem dX10_promisedOf_29 : decode cX10_promisedOf 29 = .ok (.iconst (-1), 1) := by decide +kernel
theorem dX10_promisedOf_30 : decode cX10_promisedOf 30 = .ok (.if_icmp .ne 12, 3) := by decide +kernel
theorem dX10_promisedOf_33 : decode cX10_promisedOf 33 = .ok (.aload_n 0, 1) := by decide +kernel
theorem dX10_promisedOf_34 : decode cX10_promisedOf 34 = .ok (.getfield 153, 3) := by decide +kernel
theorem dX10_promisedOf_37 : decode cX10_promisedOf 37 = .ok (.iload_n 3, 1) := by decide +kernel
theorem dX10_promisedOf_38 : decode cX10_promisedOf 38 = .ok (.iaload, 1) := by decide +kernel
theorem dX10_promisedOf_39 : decode cX10_promisedOf 39 = .ok (.goto 4, 3) := by decide +kernel
theorem dX10_promisedOf_42 : decode cX10_promisedOf 42 = .ok (.iconst 0, 1) := by decide +kernel
theorem dX10_promisedOf_43 : decode cX10_promisedOf 43 = .ok (.iadd, 1) := by decide +kernel
theorem dX10_promisedOf_44 : decode cX10_promisedOf 44 = .ok (.istore_n 2, 1) := by decide +kernel
theorem dX10_promisedOf_45 : decode cX10_promisedOf 45 = .ok (.iinc 3 1, 3) := by decide +kernel
theorem dX10_promisedOf_48 : decode cX10_promisedOf 48 = .ok (.goto (-44), 3) := by decide +kernel
theorem dX10_promisedOf_51 : decode cX10_promisedOf 51 = .ok (.iload_n 2, 1) := by decide +kernel
theorem dX10_promisedOf_52 : decode cX10_promisedOf 52 = .ok (.ireturn, 1) := by decide +kernel
theorem dX10_free_0 : decode cX10_free 0 = .ok (.aload_n 0, 1) := by decide +kernel
theorem dX10_free_1 : decode cX10_free 1 = .ok (.iload_n 1, 1) := by decide +kernel
theorem dX10_free_2 : decode cX10_free 2 = .ok (.invokevirtual 206, 3) := by decide +kernel
theorem dX10_free_5 : decode cX10_free 5 = .ok (.aload_n 0, 1) := by decide +kernel
theorem dX10_free_6 : decode cX10_free 6 = .ok (.iload_n 1, 1) := by decide +kernel
theorem dX10_free_7 : decode cX10_free 7 = .ok (.invokevirtual 209, 3) := by decide +kernel
theorem dX10_free_10 : decode cX10_free 10 = .ok (.isub, 1) := by decide +kernel
theorem dX10_free_11 : decode cX10_free 11 = .ok (.ireturn, 1) := by decide +kernel
theorem dX10_newBatch_0 : decode cX10_newBatch 0 = .ok (.aload_n 0, 1) := by decide +kernel
theorem dX10_newBatch_1 : decode cX10_newBatch 1 = .ok (.getfield 176, 3) := by decide +kernel
theorem dX10_newBatch_4 : decode cX10_newBatch 4 = .ok (.istore 4, 2) := by decide +kernel
theorem dX10_newBatch_6 : decode cX10_newBatch 6 = .ok (.aload_n 0, 1) := by decide +kernel
theorem dX10_newBatch_7 : decode cX10_newBatch 7 = .ok (.getfield 53, 3) := by decide +kernel
theorem dX10_newBatch_10 : decode cX10_newBatch 10 = .ok (.iload 4, 2) := by decide +kernel
theorem dX10_newBatch_12 : decode cX10_newBatch 12 = .ok (.iload_n 1, 1) := by decide +kernel
theorem dX10_newBatch_13 : decode cX10_newBatch 13 = .ok (.iastore, 1) := by decide +kernel
theorem dX10_newBatch_14 : decode cX10_newBatch 14 = .ok (.aload_n 0, 1) := by decide +kernel
theorem dX10_newBatch_15 : decode cX10_newBatch 15 = .ok (.getfield 56, 3) := by decide +kernel
theorem dX10_newBatch_18 : decode cX10_newBatch 18 = .ok (.iload 4, 2) := by decide +kernel
theorem dX10_newBatch_20 : decode cX10_newBatch 20 = .ok (.iload_n 2, 1) := by decide +kernel
theorem dX10_newBatch_21 : decode cX10_newBatch 21 = .ok (.iastore, 1) := by decide +kernel
theorem dX10_newBatch_22 : decode cX10_newBatch 22 = .ok (.aload_n 0, 1) := by decide +kernel
theorem dX10_newBatch_23 : decode cX10_newBatch 23 = .ok (.getfield 59, 3) := by decide +kernel
theorem dX10_newBatch_26 : decode cX10_newBatch 26 = .ok (.iload 4, 2) := by decide +kernel
theorem dX10_newBatch_28 : decode cX10_newBatch 28 = .ok (.iconst 0, 1) := by decide +kernel
theorem dX10_newBatch_29 : decode cX10_newBatch 29 = .ok (.iastore, 1) := by decide +kernel
theorem dX10_newBatch_30 : decode cX10_newBatch 30 = .ok (.aload_n 0, 1) := by decide +kernel
theorem dX10_newBatch_31 : decode cX10_newBatch 31 = .ok (.getfield 62, 3) := by decide +kernel
theorem dX10_newBatch_34 : decode cX10_newBatch 34 = .ok (.iload 4, 2) := by decide +kernel
theorem dX10_newBatch_36 : decode cX10_newBatch 36 = .ok (.iload_n 3, 1) := by decide +kernel
theorem dX10_newBatch_37 : decode cX10_newBatch 37 = .ok (.iastore, 1) := by decide +kernel
theorem dX10_newBatch_38 : decode cX10_newBatch 38 = .ok (.aload_n 0, 1) := by decide +kernel
theorem dX10_newBatch_39 : decode cX10_newBatch 39 = .ok (.getfield 65, 3) := by decide +kernel
theorem dX10_newBatch_42 : decode cX10_newBatch 42 = .ok (.iload 4, 2) := by decide +kernel
theorem dX10_newBatch_44 : decode cX10_newBatch 44 = .ok (.iconst 0, 1) := by decide +kernel
theorem dX10_newBatch_45 : decode cX10_newBatch 45 = .ok (.iastore, 1) := by decide +kernel
theorem dX10_newBatch_46 : decode cX10_newBatch 46 = .ok (.aload_n 0, 1) := by decide +kernel
theorem dX10_newBatch_47 : decode cX10_newBatch 47 = .ok (.getfield 68, 3) := by decide +kernel
theorem dX10_newBatch_50 : decode cX10_newBatch 50 = .ok (.iload 4, 2) := by decide +kernel
theorem dX10_newBatch_52 : decode cX10_newBatch 52 = .ok (.iconst 0, 1) := by decide +kernel
theorem dX10_newBatch_53 : decode cX10_newBatch 53 = .ok (.iastore, 1) := by decide +kernel
theorem dX10_newBatch_54 : decode cX10_newBatch 54 = .ok (.aload_n 0, 1) := by decide +kernel
theorem dX10_newBatch_55 : decode cX10_newBatch 55 = .ok (.getfield 71, 3) := by decide +kernel
theorem dX10_newBatch_58 : decode cX10_newBatch 58 = .ok (.iload 4, 2) := by decide +kernel
theorem dX10_newBatch_60 : decode cX10_newBatch 60 = .ok (.iconst 0, 1) := by decide +kernel
theorem dX10_newBatch_61 : decode cX10_newBatch 61 = .ok (.bastore, 1) := by decide +kernel
theorem dX10_newBatch_62 : decode cX10_newBatch 62 = .ok (.aload_n 0, 1) := by decide +kernel
theorem dX10_newBatch_63 : decode cX10_newBatch 63 = .ok (.getfield 74, 3) := by decide +kernel
theorem dX10_newBatch_66 : decode cX10_newBatch 66 = .ok (.iload 4, 2) := by decide +kernel
theorem dX10_newBatch_68 : decode cX10_newBatch 68 = .ok (.iconst 0, 1) := by decide +kernel
theorem dX10_newBatch_69 : decode cX10_newBatch 69 = .ok (.bastore, 1) := by decide +kernel
theorem dX10_newBatch_70 : decode cX10_newBatch 70 = .ok (.aload_n 0, 1) := by decide +kernel
theorem dX10_newBatch_71 : decode cX10_newBatch 71 = .ok (.getfield 77, 3) := by decide +kernel
theorem dX10_newBatch_74 : decode cX10_newBatch 74 = .ok (.iload 4, 2) := by decide +kernel
theorem dX10_newBatch_76 : decode cX10_newBatch 76 = .ok (.iconst 0, 1) := by decide +kernel
theorem dX10_newBatch_77 : decode cX10_newBatch 77 = .ok (.iastore, 1) := by decide +kernel
theorem dX10_newBatch_78 : decode cX10_newBatch 78 = .ok (.aload_n 0, 1) := by decide +kernel
theorem dX10_newBatch_79 : decode cX10_newBatch 79 = .ok (.getfield 80, 3) := by decide +kernel
theorem dX10_newBatch_82 : decode cX10_newBatch 82 = .ok (.iload 4, 2) := by decide +kernel
theorem dX10_newBatch_84 : decode cX10_newBatch 84 = .ok (.iconst 0, 1) := by decide +kernel
theorem dX10_newBatch_85 : decode cX10_newBatch 85 = .ok (.bastore, 1) := by decide +kernel
theorem dX10_newBatch_86 : decode cX10_newBatch 86 = .ok (.aload_n 0, 1) := by decide +kernel
theorem dX10_newBatch_87 : decode cX10_newBatch 87 = .ok (.getfield 83, 3) := by decide +kernel
theorem dX10_newBatch_90 : decode cX10_newBatch 90 = .ok (.iload 4, 2) := by decide +kernel
theorem dX10_newBatch_92 : decode cX10_newBatch 92 = .ok (.iconst (-1), 1) := by decide +kernel
theorem dX10_newBatch_93 : decode cX10_newBatch 93 = .ok (.iastore, 1) := by decide +kernel
theorem dX10_newBatch_94 : decode cX10_newBatch 94 = .ok (.aload_n 0, 1) := by decide +kernel
theorem dX10_newBatch_95 : decode cX10_newBatch 95 = .ok (.getfield 86, 3) := by decide +kernel
theorem dX10_newBatch_98 : decode cX10_newBatch 98 = .ok (.iload 4, 2) := by decide +kernel
theorem dX10_newBatch_100 : decode cX10_newBatch 100 = .ok (.lconst 0, 1) := by decide +kernel
theorem dX10_newBatch_101 : decode cX10_newBatch 101 = .ok (.lastore, 1) := by decide +kernel
theorem dX10_newBatch_102 : decode cX10_newBatch 102 = .ok (.aload_n 0, 1) := by decide +kernel
theorem dX10_newBatch_103 : decode cX10_newBatch 103 = .ok (.dup, 1) := by decide +kernel
theorem dX10_newBatch_104 : decode cX10_newBatch 104 = .ok (.getfield 176, 3) := by decide +kernel
theorem dX10_newBatch_107 : decode cX10_newBatch 107 = .ok (.iconst 1, 1) := by decide +kernel
theorem dX10_newBatch_108 : decode cX10_newBatch 108 = .ok (.iadd, 1) := by decide +kernel
theorem dX10_newBatch_109 : decode cX10_newBatch 109 = .ok (.putfield 176, 3) := by decide +kernel
theorem dX10_newBatch_112 : decode cX10_newBatch 112 = .ok (.iload 4, 2) := by decide +kernel
theorem dX10_newBatch_114 : decode cX10_newBatch 114 = .ok (.ireturn, 1) := by decide +kernel
theorem dX10_buy_0 : decode cX10_buy 0 = .ok (.aload_n 0, 1) := by decide +kernel
theorem dX10_buy_1 : decode cX10_buy 1 = .ok (.iload_n 1, 1) := by decide +kernel
theorem dX10_buy_2 : decode cX10_buy 2 = .ok (.invokestatic 179, 3) := by decide +kernel
theorem dX10_buy_5 : decode cX10_buy 5 = .ok (.ifCond .ne 7, 3) := by decide +kernel
theorem dX10_buy_8 : decode cX10_buy 8 = .ok (.iconst 1, 1) := by decide +kernel
theorem dX10_buy_9 : decode cX10_buy 9 = .ok (.goto 41, 3) := by decide +kernel
theorem dX10_buy_12 : decode cX10_buy 12 = .ok (.iload_n 2, 1) := by decide +kernel
theorem dX10_buy_13 : decode cX10_buy 13 = .ok (.iconst 1, 1) := by decide +kernel
theorem dX10_buy_14 : decode cX10_buy 14 = .ok (.bipush 20, 2) := by decide +kernel
theorem dX10_buy_16 : decode cX10_buy 16 = .ok (.invokestatic 172, 3) := by decide +kernel
theorem dX10_buy_19 : decode cX10_buy 19 = .ok (.ifCond .ne 7, 3) := by decide +kernel
theorem dX10_buy_22 : decode cX10_buy 22 = .ok (.iconst 2, 1) := by decide +kernel
theorem dX10_buy_23 : decode cX10_buy 23 = .ok (.goto 27, 3) := by decide +kernel
theorem dX10_buy_26 : decode cX10_buy 26 = .ok (.aload_n 0, 1) := by decide +kernel
theorem dX10_buy_27 : decode cX10_buy 27 = .ok (.getfield 7, 3) := by decide +kernel
theorem dX10_buy_30 : decode cX10_buy 30 = .ok (.iload_n 1, 1) := by decide +kernel
theorem dX10_buy_31 : decode cX10_buy 31 = .ok (.iaload, 1) := by decide +kernel
theorem dX10_buy_32 : decode cX10_buy 32 = .ok (.iconst 1, 1) := by decide +kernel
theorem dX10_buy_33 : decode cX10_buy 33 = .ok (.if_icmp .ne 12, 3) := by decide +kernel
theorem dX10_buy_36 : decode cX10_buy 36 = .ok (.aload_n 0, 1) := by decide +kernel
theorem dX10_buy_37 : decode cX10_buy 37 = .ok (.getfield 176, 3) := by decide +kernel
theorem dX10_buy_40 : decode cX10_buy 40 = .ok (.bipush 60, 2) := by decide +kernel
theorem dX10_buy_42 : decode cX10_buy 42 = .ok (.if_icmp .ne 7, 3) := by decide +kernel
theorem dX10_buy_45 : decode cX10_buy 45 = .ok (.iconst 3, 1) := by decide +kernel
theorem dX10_buy_46 : decode cX10_buy 46 = .ok (.goto 4, 3) := by decide +kernel
theorem dX10_buy_49 : decode cX10_buy 49 = .ok (.iconst 0, 1) := by decide +kernel
theorem dX10_buy_50 : decode cX10_buy 50 = .ok (.putfield 168, 3) := by decide +kernel
theorem dX10_buy_53 : decode cX10_buy 53 = .ok (.aload_n 0, 1) := by decide +kernel
theorem dX10_buy_54 : decode cX10_buy 54 = .ok (.getfield 168, 3) := by decide +kernel
theorem dX10_buy_57 : decode cX10_buy 57 = .ok (.ifCond .le 5, 3) := by decide +kernel
theorem dX10_buy_60 : decode cX10_buy 60 = .ok (.iconst 0, 1) := by decide +kernel
theorem dX10_buy_61 : decode cX10_buy 61 = .ok (.ireturn, 1) := by decide +kernel
theorem dX10_buy_62 : decode cX10_buy 62 = .ok (.aload_n 0, 1) := by decide +kernel
theorem dX10_buy_63 : decode cX10_buy 63 = .ok (.iload_n 1, 1) := by decide +kernel
theorem dX10_buy_64 : decode cX10_buy 64 = .ok (.iload_n 2, 1) := by decide +kernel
theorem dX10_buy_65 : decode cX10_buy 65 = .ok (.iconst 0, 1) := by decide +kernel
theorem dX10_buy_66 : decode cX10_buy 66 = .ok (.invokevirtual 212, 3) := by decide +kernel
theorem dX10_buy_69 : decode cX10_buy 69 = .ok (.istore_n 3, 1) := by decide +kernel
theorem dX10_buy_70 : decode cX10_buy 70 = .ok (.aload_n 0, 1) := by decide +kernel
theorem dX10_buy_71 : decode cX10_buy 71 = .ok (.getfield 49, 3) := by decide +kernel
theorem dX10_buy_74 : decode cX10_buy 74 = .ok (.iload_n 1, 1) := by decide +kernel
theorem dX10_buy_75 : decode cX10_buy 75 = .ok (.iconst 1, 1) := by decide +kernel
theorem dX10_buy_76 : decode cX10_buy 76 = .ok (.bastore, 1) := by decide +kernel
theorem dX10_buy_77 : decode cX10_buy 77 = .ok (.aload_n 0, 1) := by decide +kernel
theorem dX10_buy_78 : decode cX10_buy 78 = .ok (.getfield 83, 3) := by decide +kernel
theorem dX10_buy_81 : decode cX10_buy 81 = .ok (.iload_n 3, 1) := by decide +kernel
theorem dX10_buy_82 : decode cX10_buy 82 = .ok (.aload_n 0, 1) := by decide +kernel
theorem dX10_buy_83 : decode cX10_buy 83 = .ok (.getfield 193, 3) := by decide +kernel
theorem dX10_buy_86 : decode cX10_buy 86 = .ok (.aload_n 0, 1) := by decide +kernel
theorem dX10_buy_87 : decode cX10_buy 87 = .ok (.getfield 16, 3) := by decide +kernel
theorem dX10_buy_90 : decode cX10_buy 90 = .ok (.iload_n 1, 1) := by decide +kernel
theorem dX10_buy_91 : decode cX10_buy 91 = .ok (.iaload, 1) := by decide +kernel
theorem dX10_buy_92 : decode cX10_buy 92 = .ok (.iadd, 1) := by decide +kernel
theorem dX10_buy_93 : decode cX10_buy 93 = .ok (.iastore, 1) := by decide +kernel
theorem dX10_buy_94 : decode cX10_buy 94 = .ok (.aload_n 0, 1) := by decide +kernel
theorem dX10_buy_95 : decode cX10_buy 95 = .ok (.getfield 59, 3) := by decide +kernel
theorem dX10_buy_98 : decode cX10_buy 98 = .ok (.iload_n 3, 1) := by decide +kernel
theorem dX10_buy_99 : decode cX10_buy 99 = .ok (.iload_n 2, 1) := by decide +kernel
theorem dX10_buy_100 : decode cX10_buy 100 = .ok (.aload_n 0, 1) := by decide +kernel
theorem dX10_buy_101 : decode cX10_buy 101 = .ok (.getfield 13, 3) := by decide +kernel
theorem dX10_buy_104 : decode cX10_buy 104 = .ok (.iload_n 1, 1) := by decide +kernel
theorem dX10_buy_105 : decode cX10_buy 105 = .ok (.iaload, 1) := by decide +kernel
theorem dX10_buy_106 : decode cX10_buy 106 = .ok (.imul, 1) := by decide +kernel
theorem dX10_buy_107 : decode cX10_buy 107 = .ok (.iastore, 1) := by decide +kernel
theorem dX10_buy_108 : decode cX10_buy 108 = .ok (.aload_n 0, 1) := by decide +kernel
theorem dX10_buy_109 : decode cX10_buy 109 = .ok (.dup, 1) := by decide +kernel
theorem dX10_buy_110 : decode cX10_buy 110 = .ok (.getfield 216, 3) := by decide +kernel
theorem dX10_buy_113 : decode cX10_buy 113 = .ok (.aload_n 0, 1) := by decide +kernel
theorem dX10_buy_114 : decode cX10_buy 114 = .ok (.getfield 59, 3) := by decide +kernel
theorem dX10_buy_117 : decode cX10_buy 117 = .ok (.iload_n 3, 1) := by decide +kernel
theorem dX10_buy_118 : decode cX10_buy 118 = .ok (.iaload, 1) := by decide +kernel
theorem dX10_buy_119 : decode cX10_buy 119 = .ok (.iadd, 1) := by decide +kernel
theorem dX10_buy_120 : decode cX10_buy 120 = .ok (.putfield 216, 3) := by decide +kernel
theorem dX10_buy_123 : decode cX10_buy 123 = .ok (.iload_n 3, 1) := by decide +kernel
theorem dX10_buy_124 : decode cX10_buy 124 = .ok (.ireturn, 1) := by decide +kernel
theorem dX10_late_0 : decode cX10_late 0 = .ok (.aload_n 0, 1) := by decide +kernel
theorem dX10_late_1 : decode cX10_late 1 = .ok (.aload_n 0, 1) := by decide +kernel
theorem dX10_late_2 : decode cX10_late 2 = .ok (.iload_n 1, 1) := by decide +kernel
theorem dX10_late_3 : decode cX10_late 3 = .ok (.invokevirtual 219, 3) := by decide +kernel
theorem dX10_late_6 : decode cX10_late 6 = .ok (.ifCond .ne 7, 3) := by decide +kernel
theorem dX10_late_9 : decode cX10_late 9 = .ok (.iconst 1, 1) := by decide +kernel
theorem dX10_late_10 : decode cX10_late 10 = .ok (.goto 31, 3) := by decide +kernel
theorem dX10_late_13 : decode cX10_late 13 = .ok (.iload_n 2, 1) := by decide +kernel
theorem dX10_late_14 : decode cX10_late 14 = .ok (.iconst 1, 1) := by decide +kernel
theorem dX10_late_15 : decode cX10_late 15 = .ok (.bipush 30, 2) := by decide +kernel
theorem dX10_late_17 : decode cX10_late 17 = .ok (.invokestatic 172, 3) := by decide +kernel
theorem dX10_late_20 : decode cX10_late 20 = .ok (.ifCond .ne 7, 3) := by decide +kernel
theorem dX10_late_23 : decode cX10_late 23 = .ok (.iconst 2, 1) := by decide +kernel
theorem dX10_late_24 : decode cX10_late 24 = .ok (.goto 17, 3) := by decide +kernel
theorem dX10_late_27 : decode cX10_late 27 = .ok (.aload_n 0, 1) := by decide +kernel
theorem dX10_late_28 : decode cX10_late 28 = .ok (.getfield 62, 3) := by decide +kernel
theorem dX10_late_31 : decode cX10_late 31 = .ok (.iload_n 1, 1) := by decide +kernel
theorem dX10_late_32 : decode cX10_late 32 = .ok (.iaload, 1) := by decide +kernel
theorem dX10_late_33 : decode cX10_late 33 = .ok (.ifCond .eq 7, 3) := by decide +kernel
theorem dX10_late_36 : decode cX10_late 36 = .ok (.iconst 3, 1) := by decide +kernel
theorem dX10_late_37 : decode cX10_late 37 = .ok (.goto 4, 3) := by decide +kernel
theorem dX10_late_40 : decode cX10_late 40 = .ok (.iconst 0, 1) := by decide +kernel
theorem dX10_late_41 : decode cX10_late 41 = .ok (.putfield 168, 3) := by decide +kernel
theorem dX10_late_44 : decode cX10_late 44 = .ok (.aload_n 0, 1) := by decide +kernel
theorem dX10_late_45 : decode cX10_late 45 = .ok (.getfield 168, 3) := by decide +kernel
theorem dX10_late_48 : decode cX10_late 48 = .ok (.ifCond .le 5, 3) := by decide +kernel
theorem dX10_late_51 : decode cX10_late 51 = .ok (.iconst 0, 1) := by decide +kernel
theorem dX10_late_52 : decode cX10_late 52 = .ok (.ireturn, 1) := by decide +kernel
theorem dX10_late_53 : decode cX10_late 53 = .ok (.aload_n 0, 1) := by decide +kernel
theorem dX10_late_54 : decode cX10_late 54 = .ok (.getfield 83, 3) := by decide +kernel
theorem dX10_late_57 : decode cX10_late 57 = .ok (.iload_n 1, 1) := by decide +kernel
theorem dX10_late_58 : decode cX10_late 58 = .ok (.dup2, 1) := by decide +kernel
theorem dX10_late_59 : decode cX10_late 59 = .ok (.iaload, 1) := by decide +kernel
theorem dX10_late_60 : decode cX10_late 60 = .ok (.iload_n 2, 1) := by decide +kernel
theorem dX10_late_61 : decode cX10_late 61 = .ok (.iadd, 1) := by decide +kernel
theorem dX10_late_62 : decode cX10_late 62 = .ok (.iastore, 1) := by decide +kernel
theorem dX10_late_63 : decode cX10_late 63 = .ok (.aload_n 0, 1) := by decide +kernel
theorem dX10_late_64 : decode cX10_late 64 = .ok (.getfield 83, 3) := by decide +kernel
theorem dX10_late_67 : decode cX10_late 67 = .ok (.iload_n 1, 1) := by decide +kernel
theorem dX10_late_68 : decode cX10_late 68 = .ok (.iaload, 1) := by decide +kernel
theorem dX10_late_69 : decode cX10_late 69 = .ok (.ireturn, 1) := by decide +kernel
theorem dX10_make_0 : decode cX10_make 0 = .ok (.aload_n 0, 1) := by decide +kernel
theorem dX10_make_1 : decode cX10_make 1 = .ok (.iload_n 1, 1) := by decide +kernel
theorem dX10_make_2 : decode cX10_make 2 = .ok (.invokestatic 179, 3) := by decide +kernel
theorem dX10_make_5 : decode cX10_make 5 = .ok (.ifCond .ne 7, 3) := by decide +kernel
theorem dX10_make_8 : decode cX10_make 8 = .ok (.iconst 1, 1) := by decide +kernel
theorem dX10_make_9 : decode cX10_make 9 = .ok (.goto 66, 3) := by decide +kernel
theorem dX10_make_12 : decode cX10_make 12 = .ok (.iload_n 2, 1) := by decide +kernel
theorem dX10_make_13 : decode cX10_make 13 = .ok (.iconst 1, 1) := by decide +kernel
theorem dX10_make_14 : decode cX10_make 14 = .ok (.bipush 20, 2) := by decide +kernel
theorem dX10_make_16 : decode cX10_make 16 = .ok (.invokestatic 172, 3) := by decide +kernel
theorem dX10_make_19 : decode cX10_make 19 = .ok (.ifCond .eq 13, 3) := by decide +kernel
theorem dX10_make_22 : decode cX10_make 22 = .ok (.iload_n 3, 1) := by decide +kernel
theorem dX10_make_23 : decode cX10_make 23 = .ok (.iconst 0, 1) := by decide +kernel
theorem dX10_make_24 : decode cX10_make 24 = .ok (.bipush 9, 2) := by decide +kernel
theorem dX10_make_26 : decode cX10_make 26 = .ok (.invokestatic 172, 3) := by decide +kernel
theorem dX10_make_29 : decode cX10_make 29 = .ok (.ifCond .ne 7, 3) := by decide +kernel
theorem dX10_make_32 : decode cX10_make 32 = .ok (.iconst 2, 1) := by decide +kernel
theorem dX10_make_33 : decode cX10_make 33 = .ok (.goto 42, 3) := by decide +kernel
theorem dX10_make_36 : decode cX10_make 36 = .ok (.aload_n 0, 1) := by decide +kernel
theorem dX10_make_37 : decode cX10_make 37 = .ok (.getfield 7, 3) := by decide +kernel
theorem dX10_make_40 : decode cX10_make 40 = .ok (.iload_n 1, 1) := by decide +kernel
theorem dX10_make_41 : decode cX10_make 41 = .ok (.iaload, 1) := by decide +kernel
theorem dX10_make_42 : decode cX10_make 42 = .ok (.iconst 2, 1) := by decide +kernel
theorem dX10_make_43 : decode cX10_make 43 = .ok (.if_icmp .ne 27, 3) := by decide +kernel
theorem dX10_make_46 : decode cX10_make 46 = .ok (.aload_n 0, 1) := by decide +kernel
theorem dX10_make_47 : decode cX10_make 47 = .ok (.aload_n 0, 1) := by decide +kernel
theorem dX10_make_48 : decode cX10_make 48 = .ok (.getfield 34, 3) := by decide +kernel
theorem dX10_make_51 : decode cX10_make 51 = .ok (.iconst 4, 1) := by decide +kernel
theorem dX10_make_52 : decode cX10_make 52 = .ok (.iload_n 1, 1) := by decide +kernel
theorem dX10_make_53 : decode cX10_make 53 = .ok (.imul, 1) := by decide +kernel
theorem dX10_make_54 : decode cX10_make 54 = .ok (.iaload, 1) := by decide +kernel
theorem dX10_make_55 : decode cX10_make 55 = .ok (.invokevirtual 222, 3) := by decide +kernel
theorem dX10_make_58 : decode cX10_make 58 = .ok (.ifCond .eq 12, 3) := by decide +kernel
theorem dX10_make_61 : decode cX10_make 61 = .ok (.aload_n 0, 1) := by decide +kernel
theorem dX10_make_62 : decode cX10_make 62 = .ok (.getfield 176, 3) := by decide +kernel
theorem dX10_make_65 : decode cX10_make 65 = .ok (.bipush 60, 2) := by decide +kernel
theorem dX10_make_67 : decode cX10_make 67 = .ok (.if_icmp .ne 7, 3) := by decide +kernel
theorem dX10_make_70 : decode cX10_make 70 = .ok (.iconst 3, 1) := by decide +kernel
theorem dX10_make_71 : decode cX10_make 71 = .ok (.goto 4, 3) := by decide +kernel
theorem dX10_make_74 : decode cX10_make 74 = .ok (.iconst 0, 1) := by decide +kernel
theorem dX10_make_75 : decode cX10_make 75 = .ok (.putfield 168, 3) := by decide +kernel
theorem dX10_make_78 : decode cX10_make 78 = .ok (.aload_n 0, 1) := by decide +kernel
theorem dX10_make_79 : decode cX10_make 79 = .ok (.getfield 168, 3) := by decide +kernel
theorem dX10_make_82 : decode cX10_make 82 = .ok (.ifCond .le 5, 3) := by decide +kernel
theorem dX10_make_85 : decode cX10_make 85 = .ok (.iconst 0, 1) := by decide +kernel
theorem dX10_make_86 : decode cX10_make 86 = .ok (.ireturn, 1) := by decide +kernel
theorem dX10_make_87 : decode cX10_make 87 = .ok (.aload_n 0, 1) := by decide +kernel
theorem dX10_make_88 : decode cX10_make 88 = .ok (.iload_n 1, 1) := by decide +kernel
theorem dX10_make_89 : decode cX10_make 89 = .ok (.iload_n 2, 1) := by decide +kernel
theorem dX10_make_90 : decode cX10_make 90 = .ok (.iconst 1, 1) := by decide +kernel
theorem dX10_make_91 : decode cX10_make 91 = .ok (.invokevirtual 212, 3) := by decide +kernel
theorem dX10_make_94 : decode cX10_make 94 = .ok (.istore 4, 2) := by decide +kernel
theorem dX10_make_96 : decode cX10_make 96 = .ok (.aload_n 0, 1) := by decide +kernel
theorem dX10_make_97 : decode cX10_make 97 = .ok (.getfield 49, 3) := by decide +kernel
theorem dX10_make_100 : decode cX10_make 100 = .ok (.iload_n 1, 1) := by decide +kernel
theorem dX10_make_101 : decode cX10_make 101 = .ok (.iconst 1, 1) := by decide +kernel
theorem dX10_make_102 : decode cX10_make 102 = .ok (.bastore, 1) := by decide +kernel
theorem dX10_make_103 : decode cX10_make 103 = .ok (.aload_n 0, 1) := by decide +kernel
theorem dX10_make_104 : decode cX10_make 104 = .ok (.getfield 68, 3) := by decide +kernel
theorem dX10_make_107 : decode cX10_make 107 = .ok (.iload 4, 2) := by decide +kernel
theorem dX10_make_109 : decode cX10_make 109 = .ok (.iload_n 3, 1) := by decide +kernel
theorem dX10_make_110 : decode cX10_make 110 = .ok (.iastore, 1) := by decide +kernel
theorem dX10_make_111 : decode cX10_make 111 = .ok (.iload 4, 2) := by decide +kernel
theorem dX10_make_113 : decode cX10_make 113 = .ok (.ireturn, 1) := by decide +kernel
theorem dX10_rank_0 : decode cX10_rank 0 = .ok (.aload_n 0, 1) := by decide +kernel
theorem dX10_rank_1 : decode cX10_rank 1 = .ok (.aload_n 0, 1) := by decide +kernel
theorem dX10_rank_2 : decode cX10_rank 2 = .ok (.iload_n 1, 1) := by decide +kernel
theorem dX10_rank_3 : decode cX10_rank 3 = .ok (.invokevirtual 219, 3) := by decide +kernel
theorem dX10_rank_6 : decode cX10_rank 6 = .ok (.ifCond .ne 7, 3) := by decide +kernel
theorem dX10_rank_9 : decode cX10_rank 9 = .ok (.iconst 1, 1) := by decide +kernel
theorem dX10_rank_10 : decode cX10_rank 10 = .ok (.goto 32, 3) := by decide +kernel
theorem dX10_rank_13 : decode cX10_rank 13 = .ok (.iload_n 2, 1) := by decide +kernel
theorem dX10_rank_14 : decode cX10_rank 14 = .ok (.iconst 0, 1) := by decide +kernel
theorem dX10_rank_15 : decode cX10_rank 15 = .ok (.bipush 9, 2) := by decide +kernel
theorem dX10_rank_17 : decode cX10_rank 17 = .ok (.invokestatic 172, 3) := by decide +kernel
theorem dX10_rank_20 : decode cX10_rank 20 = .ok (.ifCond .ne 7, 3) := by decide +kernel
theorem dX10_rank_23 : decode cX10_rank 23 = .ok (.iconst 2, 1) := by decide +kernel
theorem dX10_rank_24 : decode cX10_rank 24 = .ok (.goto 18, 3) := by decide +kernel
theorem dX10_rank_27 : decode cX10_rank 27 = .ok (.aload_n 0, 1) := by decide +kernel
theorem dX10_rank_28 : decode cX10_rank 28 = .ok (.getfield 62, 3) := by decide +kernel
theorem dX10_rank_31 : decode cX10_rank 31 = .ok (.iload_n 1, 1) := by decide +kernel
theorem dX10_rank_32 : decode cX10_rank 32 = .ok (.iaload, 1) := by decide +kernel
theorem dX10_rank_33 : decode cX10_rank 33 = .ok (.iconst 1, 1) := by decide +kernel
theorem dX10_rank_34 : decode cX10_rank 34 = .ok (.if_icmp .eq 7, 3) := by decide +kernel
theorem dX10_rank_37 : decode cX10_rank 37 = .ok (.iconst 3, 1) := by decide +kernel
theorem dX10_rank_38 : decode cX10_rank 38 = .ok (.goto 4, 3) := by decide +kernel
theorem dX10_rank_41 : decode cX10_rank 41 = .ok (.iconst 0, 1) := by decide +kernel
theorem dX10_rank_42 : decode cX10_rank 42 = .ok (.putfield 168, 3) := by decide +kernel
theorem dX10_rank_45 : decode cX10_rank 45 = .ok (.aload_n 0, 1) := by decide +kernel
theorem dX10_rank_46 : decode cX10_rank 46 = .ok (.getfield 168, 3) := by decide +kernel
theorem dX10_rank_49 : decode cX10_rank 49 = .ok (.ifCond .le 5, 3) := by decide +kernel
theorem dX10_rank_52 : decode cX10_rank 52 = .ok (.iconst 0, 1) := by decide +kernel
theorem dX10_rank_53 : decode cX10_rank 53 = .ok (.ireturn, 1) := by decide +kernel
theorem dX10_rank_54 : decode cX10_rank 54 = .ok (.aload_n 0, 1) := by decide +kernel
theorem dX10_rank_55 : decode cX10_rank 55 = .ok (.getfield 71, 3) := by decide +kernel
theorem dX10_rank_58 : decode cX10_rank 58 = .ok (.iload_n 1, 1) := by decide +kernel
theorem dX10_rank_59 : decode cX10_rank 59 = .ok (.baload, 1) := by decide +kernel
theorem dX10_rank_60 : decode cX10_rank 60 = .ok (.istore 4, 2) := by decide +kernel
theorem dX10_rank_62 : decode cX10_rank 62 = .ok (.aload_n 0, 1) := by decide +kernel
theorem dX10_rank_63 : decode cX10_rank 63 = .ok (.getfield 68, 3) := by decide +kernel
theorem dX10_rank_66 : decode cX10_rank 66 = .ok (.iload_n 1, 1) := by decide +kernel
theorem dX10_rank_67 : decode cX10_rank 67 = .ok (.iload_n 2, 1) := by decide +kernel
theorem dX10_rank_68 : decode cX10_rank 68 = .ok (.iastore, 1) := by decide +kernel
theorem dX10_rank_69 : decode cX10_rank 69 = .ok (.aload_n 0, 1) := by decide +kernel
theorem dX10_rank_70 : decode cX10_rank 70 = .ok (.getfield 71, 3) := by decide +kernel
theorem dX10_rank_73 : decode cX10_rank 73 = .ok (.iload_n 1, 1) := by decide +kernel
theorem dX10_rank_74 : decode cX10_rank 74 = .ok (.iload_n 3, 1) := by decide +kernel
theorem dX10_rank_75 : decode cX10_rank 75 = .ok (.bastore, 1) := by decide +kernel
theorem dX10_rank_76 : decode cX10_rank 76 = .ok (.iload 4, 2) := by decide +kernel
theorem dX10_rank_78 : decode cX10_rank 78 = .ok (.ireturn, 1) := by decide +kernel
theorem dX10_takeFrom_0 : decode cX10_takeFrom 0 = .ok (.aload_n 0, 1) := by decide +kernel
theorem dX10_takeFrom_1 : decode cX10_takeFrom 1 = .ok (.iload_n 1, 1) := by decide +kernel
theorem dX10_takeFrom_2 : decode cX10_takeFrom 2 = .ok (.iload_n 2, 1) := by decide +kernel
theorem dX10_takeFrom_3 : decode cX10_takeFrom 3 = .ok (.invokevirtual 225, 3) := by decide +kernel
theorem dX10_takeFrom_6 : decode cX10_takeFrom 6 = .ok (.istore 4, 2) := by decide +kernel
theorem dX10_takeFrom_8 : decode cX10_takeFrom 8 = .ok (.aload_n 0, 1) := by decide +kernel
theorem dX10_takeFrom_9 : decode cX10_takeFrom 9 = .ok (.getfield 59, 3) := by decide +kernel
theorem dX10_takeFrom_12 : decode cX10_takeFrom 12 = .ok (.iload_n 3, 1) := by decide +kernel
theorem dX10_takeFrom_13 : decode cX10_takeFrom 13 = .ok (.dup2, 1) := by decide +kernel
theorem dX10_takeFrom_14 : decode cX10_takeFrom 14 = .ok (.iaload, 1) := by decide +kernel
theorem dX10_takeFrom_15 : decode cX10_takeFrom 15 = .ok (.iload 4, 2) := by decide +kernel
theorem dX10_takeFrom_17 : decode cX10_takeFrom 17 = .ok (.iadd, 1) := by decide +kernel
theorem dX10_takeFrom_18 : decode cX10_takeFrom 18 = .ok (.iastore, 1) := by decide +kernel
theorem dX10_takeFrom_19 : decode cX10_takeFrom 19 = .ok (.aload_n 0, 1) := by decide +kernel
theorem dX10_takeFrom_20 : decode cX10_takeFrom 20 = .ok (.getfield 86, 3) := by decide +kernel
theorem dX10_takeFrom_23 : decode cX10_takeFrom 23 = .ok (.iload_n 3, 1) := by decide +kernel
theorem dX10_takeFrom_24 : decode cX10_takeFrom 24 = .ok (.dup2, 1) := by decide +kernel
theorem dX10_takeFrom_25 : decode cX10_takeFrom 25 = .ok (.laload, 1) := by decide +kernel
theorem dX10_takeFrom_26 : decode cX10_takeFrom 26 = .ok (.lconst 1, 1) := by decide +kernel
theorem dX10_takeFrom_27 : decode cX10_takeFrom 27 = .ok (.iload_n 1, 1) := by decide +kernel
theorem dX10_takeFrom_28 : decode cX10_takeFrom 28 = .ok (.lshl, 1) := by decide +kernel
theorem dX10_takeFrom_29 : decode cX10_takeFrom 29 = .ok (.lor, 1) := by decide +kernel
theorem dX10_takeFrom_30 : decode cX10_takeFrom 30 = .ok (.lastore, 1) := by decide +kernel
theorem dX10_takeFrom_31 : decode cX10_takeFrom 31 = .ok (.return_, 1) := by decide +kernel
theorem dX10_costOf_0 : decode cX10_costOf 0 = .ok (.aload_n 0, 1) := by decide +kernel
theorem dX10_costOf_1 : decode cX10_costOf 1 = .ok (.getfield 59, 3) := by decide +kernel
theorem dX10_costOf_4 : decode cX10_costOf 4 = .ok (.iload_n 1, 1) := by decide +kernel
theorem dX10_costOf_5 : decode cX10_costOf 5 = .ok (.iaload, 1) := by decide +kernel
theorem dX10_costOf_6 : decode cX10_costOf 6 = .ok (.iload_n 2, 1) := by decide +kernel
theorem dX10_costOf_7 : decode cX10_costOf 7 = .ok (.imul, 1) := by decide +kernel
theorem dX10_costOf_8 : decode cX10_costOf 8 = .ok (.aload_n 0, 1) := by decide +kernel
theorem dX10_costOf_9 : decode cX10_costOf 9 = .ok (.getfield 56, 3) := by decide +kernel
theorem dX10_costOf_12 : decode cX10_costOf 12 = .ok (.iload_n 1, 1) := by decide +kernel
theorem dX10_costOf_13 : decode cX10_costOf 13 = .ok (.iaload, 1) := by decide +kernel
theorem dX10_costOf_14 : decode cX10_costOf 14 = .ok (.idiv, 1) := by decide +kernel
theorem dX10_costOf_15 : decode cX10_costOf 15 = .ok (.istore_n 3, 1) := by decide +kernel
theorem dX10_costOf_16 : decode cX10_costOf 16 = .ok (.aload_n 0, 1) := by decide +kernel
theorem dX10_costOf_17 : decode cX10_costOf 17 = .ok (.getfield 59, 3) := by decide +kernel
theorem dX10_costOf_20 : decode cX10_costOf 20 = .ok (.iload_n 1, 1) := by decide +kernel
theorem dX10_costOf_21 : decode cX10_costOf 21 = .ok (.dup2, 1) := by decide +kernel
theorem dX10_costOf_22 : decode cX10_costOf 22 = .ok (.iaload, 1) := by decide +kernel
theorem dX10_costOf_23 : decode cX10_costOf 23 = .ok (.iload_n 3, 1) := by decide +kernel
theorem dX10_costOf_24 : decode cX10_costOf 24 = .ok (.isub, 1) := by decide +kernel
theorem dX10_costOf_25 : decode cX10_costOf 25 = .ok (.iastore, 1) := by decide +kernel
theorem dX10_costOf_26 : decode cX10_costOf 26 = .ok (.aload_n 0, 1) := by decide +kernel
theorem dX10_costOf_27 : decode cX10_costOf 27 = .ok (.getfield 56, 3) := by decide +kernel
theorem dX10_costOf_30 : decode cX10_costOf 30 = .ok (.iload_n 1, 1) := by decide +kernel
theorem dX10_costOf_31 : decode cX10_costOf 31 = .ok (.dup2, 1) := by decide +kernel
theorem dX10_costOf_32 : decode cX10_costOf 32 = .ok (.iaload, 1) := by decide +kernel
theorem dX10_costOf_33 : decode cX10_costOf 33 = .ok (.iload_n 2, 1) := by decide +kernel
theorem dX10_costOf_34 : decode cX10_costOf 34 = .ok (.isub, 1) := by decide +kernel
theorem dX10_costOf_35 : decode cX10_costOf 35 = .ok (.iastore, 1) := by decide +kernel
theorem dX10_costOf_36 : decode cX10_costOf 36 = .ok (.aload_n 0, 1) := by decide +kernel
theorem dX10_costOf_37 : decode cX10_costOf 37 = .ok (.getfield 62, 3) := by decide +kernel
theorem dX10_costOf_40 : decode cX10_costOf 40 = .ok (.iload_n 1, 1) := by decide +kernel
theorem dX10_costOf_41 : decode cX10_costOf 41 = .ok (.aload_n 0, 1) := by decide +kernel
theorem dX10_costOf_42 : decode cX10_costOf 42 = .ok (.getfield 56, 3) := by decide +kernel
theorem dX10_costOf_45 : decode cX10_costOf 45 = .ok (.iload_n 1, 1) := by decide +kernel
theorem dX10_costOf_46 : decode cX10_costOf 46 = .ok (.iaload, 1) := by decide +kernel
theorem dX10_costOf_47 : decode cX10_costOf 47 = .ok (.ifCond .ne 7, 3) := by decide +kernel
theorem dX10_costOf_50 : decode cX10_costOf 50 = .ok (.iconst 4, 1) := by decide +kernel
theorem dX10_costOf_51 : decode cX10_costOf 51 = .ok (.goto 9, 3) := by decide +kernel
theorem dX10_costOf_54 : decode cX10_costOf 54 = .ok (.aload_n 0, 1) := by decide +kernel
theorem dX10_costOf_55 : decode cX10_costOf 55 = .ok (.getfield 62, 3) := by decide +kernel
theorem dX10_costOf_58 : decode cX10_costOf 58 = .ok (.iload_n 1, 1) := by decide +kernel
theorem dX10_costOf_59 : decode cX10_costOf 59 = .ok (.iaload, 1) := by decide +kernel
theorem dX10_costOf_60 : decode cX10_costOf 60 = .ok (.iastore, 1) := by decide +kernel
theorem dX10_costOf_61 : decode cX10_costOf 61 = .ok (.iload_n 3, 1) := by decide +kernel
theorem dX10_costOf_62 : decode cX10_costOf 62 = .ok (.ireturn, 1) := by decide +kernel
theorem dX10_takeKind_0 : decode cX10_takeKind 0 = .ok (.iload_n 2, 1) := by decide +kernel
theorem dX10_takeKind_1 : decode cX10_takeKind 1 = .ok (.istore 4, 2) := by decide +kernel
theorem dX10_takeKind_3 : decode cX10_takeKind 3 = .ok (.iconst 0, 1) := by decide +kernel
theorem dX10_takeKind_4 : decode cX10_takeKind 4 = .ok (.istore 5, 2) := by decide +kernel
theorem dX10_takeKind_6 : decode cX10_takeKind 6 = .ok (.iload 5, 2) := by decide +kernel
theorem dX10_takeKind_8 : decode cX10_takeKind 8 = .ok (.aload_n 0, 1) := by decide +kernel
theorem dX10_takeKind_9 : decode cX10_takeKind 9 = .ok (.getfield 176, 3) := by decide +kernel
theorem dX10_takeKind_12 : decode cX10_takeKind 12 = .ok (.if_icmp .ge 103, 3) := by decide +kernel
theorem dX10_takeKind_15 : decode cX10_takeKind 15 = .ok (.iload 4, 2) := by decide +kernel
theorem dX10_takeKind_17 : decode cX10_takeKind 17 = .ok (.ifCond .le 98, 3) := by decide +kernel
theorem dX10_takeKind_20 : decode cX10_takeKind 20 = .ok (.aload_n 0, 1) := by decide +kernel
theorem dX10_takeKind_21 : decode cX10_takeKind 21 = .ok (.getfield 62, 3) := by decide +kernel
theorem dX10_takeKind_24 : decode cX10_takeKind 24 = .ok (.iload 5, 2) := by decide +kernel
theorem dX10_takeKind_26 : decode cX10_takeKind 26 = .ok (.iaload, 1) := by decide +kernel
theorem dX10_takeKind_27 : decode cX10_takeKind 27 = .ok (.iconst 3, 1) := by decide +kernel
theorem dX10_takeKind_28 : decode cX10_takeKind 28 = .ok (.if_icmp .ne 81, 3) := by decide +kernel
theorem dX10_takeKind_31 : decode cX10_takeKind 31 = .ok (.aload_n 0, 1) := by decide +kernel
theorem dX10_takeKind_32 : decode cX10_takeKind 32 = .ok (.getfield 53, 3) := by decide +kernel
theorem dX10_takeKind_35 : decode cX10_takeKind 35 = .ok (.iload 5, 2) := by decide +kernel
theorem dX10_takeKind_37 : decode cX10_takeKind 37 = .ok (.iaload, 1) := by decide +kernel
theorem dX10_takeKind_38 : decode cX10_takeKind 38 = .ok (.iload_n 1, 1) := by decide +kernel
theorem dX10_takeKind_39 : decode cX10_takeKind 39 = .ok (.if_icmp .ne 70, 3) := by decide +kernel
theorem dX10_takeKind_42 : decode cX10_takeKind 42 = .ok (.iload 4, 2) := by decide +kernel
theorem dX10_takeKind_44 : decode cX10_takeKind 44 = .ok (.aload_n 0, 1) := by decide +kernel
theorem dX10_takeKind_45 : decode cX10_takeKind 45 = .ok (.getfield 56, 3) := by decide +kernel
theorem dX10_takeKind_48 : decode cX10_takeKind 48 = .ok (.iload 5, 2) := by decide +kernel
theorem dX10_takeKind_50 : decode cX10_takeKind 50 = .ok (.iaload, 1) := by decide +kernel
theorem dX10_takeKind_51 : decode cX10_takeKind 51 = .ok (.if_icmp .ge 8, 3) := by decide +kernel
theorem dX10_takeKind_54 : decode cX10_takeKind 54 = .ok (.iload 4, 2) := by decide +kernel
theorem dX10_takeKind_56 : decode cX10_takeKind 56 = .ok (.goto 10, 3) := by decide +kernel
theorem dX10_takeKind_59 : decode cX10_takeKind 59 = .ok (.aload_n 0, 1) := by decide +kernel
theorem dX10_takeKind_60 : decode cX10_takeKind 60 = .ok (.getfield 56, 3) := by decide +kernel
theorem dX10_takeKind_63 : decode cX10_takeKind 63 = .ok (.iload 5, 2) := by decide +kernel
theorem dX10_takeKind_65 : decode cX10_takeKind 65 = .ok (.iaload, 1) := by decide +kernel
theorem dX10_takeKind_66 : decode cX10_takeKind 66 = .ok (.istore 6, 2) := by decide +kernel
theorem dX10_takeKind_68 : decode cX10_takeKind 68 = .ok (.iload 4, 2) := by decide +kernel
theorem dX10_takeKind_70 : decode cX10_takeKind 70 = .ok (.iload 6, 2) := by decide +kernel
theorem dX10_takeKind_72 : decode cX10_takeKind 72 = .ok (.isub, 1) := by decide +kernel
theorem dX10_takeKind_73 : decode cX10_takeKind 73 = .ok (.istore 4, 2) := by decide +kernel
theorem dX10_takeKind_75 : decode cX10_takeKind 75 = .ok (.iload_n 3, 1) := by decide +kernel
theorem dX10_takeKind_76 : decode cX10_takeKind 76 = .ok (.iconst (-1), 1) := by decide +kernel
theorem dX10_takeKind_77 : decode cX10_takeKind 77 = .ok (.if_icmp .ne 23, 3) := by decide +kernel
theorem dX10_takeKind_80 : decode cX10_takeKind 80 = .ok (.aload_n 0, 1) := by decide +kernel
theorem dX10_takeKind_81 : decode cX10_takeKind 81 = .ok (.dup, 1) := by decide +kernel
theorem dX10_takeKind_82 : decode cX10_takeKind 82 = .ok (.getfield 229, 3) := by decide +kernel
theorem dX10_takeKind_85 : decode cX10_takeKind 85 = .ok (.aload_n 0, 1) := by decide +kernel
theorem dX10_takeKind_86 : decode cX10_takeKind 86 = .ok (.iload 5, 2) := by decide +kernel
theorem dX10_takeKind_88 : decode cX10_takeKind 88 = .ok (.iload 6, 2) := by decide +kernel
theorem dX10_takeKind_90 : decode cX10_takeKind 90 = .ok (.invokevirtual 225, 3) := by decide +kernel
theorem dX10_takeKind_93 : decode cX10_takeKind 93 = .ok (.iadd, 1) := by decide +kernel
theorem dX10_takeKind_94 : decode cX10_takeKind 94 = .ok (.putfield 229, 3) := by decide +kernel
theorem dX10_takeKind_97 : decode cX10_takeKind 97 = .ok (.goto 12, 3) := by decide +kernel
theorem dX10_takeKind_100 : decode cX10_takeKind 100 = .ok (.aload_n 0, 1) := by decide +kernel
theorem dX10_takeKind_101 : decode cX10_takeKind 101 = .ok (.iload 5, 2) := by decide +kernel
theorem dX10_takeKind_103 : decode cX10_takeKind 103 = .ok (.iload 6, 2) := by decide +kernel
theorem dX10_takeKind_105 : decode cX10_takeKind 105 = .ok (.iload_n 3, 1) := by decide +kernel
theorem dX10_takeKind_106 : decode cX10_takeKind 106 = .ok (.invokevirtual 232, 3) := by decide +kernel
theorem dX10_takeKind_109 : decode cX10_takeKind 109 = .ok (.iinc 5 1, 3) := by decide +kernel
theorem dX10_takeKind_112 : decode cX10_takeKind 112 = .ok (.goto (-106), 3) := by decide +kernel
theorem dX10_takeKind_115 : decode cX10_takeKind 115 = .ok (.return_, 1) := by decide +kernel
theorem dX10_split_0 : decode cX10_split 0 = .ok (.aload_n 0, 1) := by decide +kernel
theorem dX10_split_1 : decode cX10_split 1 = .ok (.aload_n 0, 1) := by decide +kernel
theorem dX10_split_2 : decode cX10_split 2 = .ok (.iload_n 1, 1) := by decide +kernel
theorem dX10_split_3 : decode cX10_split 3 = .ok (.invokevirtual 219, 3) := by decide +kernel
theorem dX10_split_6 : decode cX10_split 6 = .ok (.ifCond .ne 7, 3) := by decide +kernel
theorem dX10_split_9 : decode cX10_split 9 = .ok (.iconst 1, 1) := by decide +kernel
theorem dX10_split_10 : decode cX10_split 10 = .ok (.goto 67, 3) := by decide +kernel
theorem dX10_split_13 : decode cX10_split 13 = .ok (.iload_n 2, 1) := by decide +kernel
theorem dX10_split_14 : decode cX10_split 14 = .ok (.iconst 1, 1) := by decide +kernel
theorem dX10_split_15 : decode cX10_split 15 = .ok (.if_icmp .lt 13, 3) := by decide +kernel
theorem dX10_split_18 : decode cX10_split 18 = .ok (.iload_n 2, 1) := by decide +kernel
theorem dX10_split_19 : decode cX10_split 19 = .ok (.aload_n 0, 1) := by decide +kernel
theorem dX10_split_20 : decode cX10_split 20 = .ok (.getfield 56, 3) := by decide +kernel
theorem dX10_split_23 : decode cX10_split 23 = .ok (.iload_n 1, 1) := by decide +kernel
theorem dX10_split_24 : decode cX10_split 24 = .ok (.iaload, 1) := by decide +kernel
theorem dX10_split_25 : decode cX10_split 25 = .ok (.if_icmp .lt 7, 3) := by decide +kernel
theorem dX10_split_28 : decode cX10_split 28 = .ok (.iconst 2, 1) := by decide +kernel
theorem dX10_split_29 : decode cX10_split 29 = .ok (.goto 48, 3) := by decide +kernel
theorem dX10_split_32 : decode cX10_split 32 = .ok (.aload_n 0, 1) := by decide +kernel
theorem dX10_split_33 : decode cX10_split 33 = .ok (.getfield 62, 3) := by decide +kernel
theorem dX10_split_36 : decode cX10_split 36 = .ok (.iload_n 1, 1) := by decide +kernel
theorem dX10_split_37 : decode cX10_split 37 = .ok (.iaload, 1) := by decide +kernel
theorem dX10_split_38 : decode cX10_split 38 = .ok (.iconst 1, 1) := by decide +kernel
theorem dX10_split_39 : decode cX10_split 39 = .ok (.if_icmp .ne 33, 3) := by decide +kernel
theorem dX10_split_42 : decode cX10_split 42 = .ok (.aload_n 0, 1) := by decide +kernel
theorem dX10_split_43 : decode cX10_split 43 = .ok (.getfield 71, 3) := by decide +kernel
theorem dX10_split_46 : decode cX10_split 46 = .ok (.iload_n 1, 1) := by decide +kernel
theorem dX10_split_47 : decode cX10_split 47 = .ok (.baload, 1) := by decide +kernel
theorem dX10_split_48 : decode cX10_split 48 = .ok (.ifCond .ne 24, 3) := by decide +kernel
theorem dX10_split_51 : decode cX10_split 51 = .ok (.aload_n 0, 1) := by decide +kernel
theorem dX10_split_52 : decode cX10_split 52 = .ok (.aload_n 0, 1) := by decide +kernel
theorem dX10_split_53 : decode cX10_split 53 = .ok (.iload_n 1, 1) := by decide +kernel
theorem dX10_split_54 : decode cX10_split 54 = .ok (.invokevirtual 196, 3) := by decide +kernel
theorem dX10_split_57 : decode cX10_split 57 = .ok (.invokevirtual 222, 3) := by decide +kernel
theorem dX10_split_60 : decode cX10_split 60 = .ok (.ifCond .eq 12, 3) := by decide +kernel
theorem dX10_split_63 : decode cX10_split 63 = .ok (.aload_n 0, 1) := by decide +kernel
theorem dX10_split_64 : decode cX10_split 64 = .ok (.getfield 176, 3) := by decide +kernel
theorem dX10_split_67 : decode cX10_split 67 = .ok (.bipush 60, 2) := by decide +kernel
theorem dX10_split_69 : decode cX10_split 69 = .ok (.if_icmp .ne 7, 3) := by decide +kernel
theorem dX10_split_72 : decode cX10_split 72 = .ok (.iconst 3, 1) := by decide +kernel
theorem dX10_split_73 : decode cX10_split 73 = .ok (.goto 4, 3) := by decide +kernel
theorem dX10_split_76 : decode cX10_split 76 = .ok (.iconst 0, 1) := by decide +kernel
theorem dX10_split_77 : decode cX10_split 77 = .ok (.putfield 168, 3) := by decide +kernel
theorem dX10_split_80 : decode cX10_split 80 = .ok (.aload_n 0, 1) := by decide +kernel
theorem dX10_split_81 : decode cX10_split 81 = .ok (.getfield 168, 3) := by decide +kernel
theorem dX10_split_84 : decode cX10_split 84 = .ok (.ifCond .le 5, 3) := by decide +kernel
theorem dX10_split_87 : decode cX10_split 87 = .ok (.iconst 0, 1) := by decide +kernel
theorem dX10_split_88 : decode cX10_split 88 = .ok (.ireturn, 1) := by decide +kernel
theorem dX10_split_89 : decode cX10_split 89 = .ok (.aload_n 0, 1) := by decide +kernel
theorem dX10_split_90 : decode cX10_split 90 = .ok (.aload_n 0, 1) := by decide +kernel
theorem dX10_split_91 : decode cX10_split 91 = .ok (.getfield 53, 3) := by decide +kernel
theorem dX10_split_94 : decode cX10_split 94 = .ok (.iload_n 1, 1) := by decide +kernel
theorem dX10_split_95 : decode cX10_split 95 = .ok (.iaload, 1) := by decide +kernel
theorem dX10_split_96 : decode cX10_split 96 = .ok (.iload_n 2, 1) := by decide +kernel
theorem dX10_split_97 : decode cX10_split 97 = .ok (.iconst 1, 1) := by decide +kernel
theorem dX10_split_98 : decode cX10_split 98 = .ok (.invokevirtual 212, 3) := by decide +kernel
theorem dX10_split_101 : decode cX10_split 101 = .ok (.istore_n 3, 1) := by decide +kernel
theorem dX10_split_102 : decode cX10_split 102 = .ok (.aload_n 0, 1) := by decide +kernel
theorem dX10_split_103 : decode cX10_split 103 = .ok (.getfield 65, 3) := by decide +kernel
theorem dX10_split_106 : decode cX10_split 106 = .ok (.iload_n 3, 1) := by decide +kernel
theorem dX10_split_107 : decode cX10_split 107 = .ok (.aload_n 0, 1) := by decide +kernel
theorem dX10_split_108 : decode cX10_split 108 = .ok (.getfield 65, 3) := by decide +kernel
theorem dX10_split_111 : decode cX10_split 111 = .ok (.iload_n 1, 1) := by decide +kernel
theorem dX10_split_112 : decode cX10_split 112 = .ok (.iaload, 1) := by decide +kernel
theorem dX10_split_113 : decode cX10_split 113 = .ok (.iastore, 1) := by decide +kernel
theorem dX10_split_114 : decode cX10_split 114 = .ok (.aload_n 0, 1) := by decide +kernel
theorem dX10_split_115 : decode cX10_split 115 = .ok (.getfield 68, 3) := by decide +kernel
theorem dX10_split_118 : decode cX10_split 118 = .ok (.iload_n 3, 1) := by decide +kernel
theorem dX10_split_119 : decode cX10_split 119 = .ok (.aload_n 0, 1) := by decide +kernel
theorem dX10_split_120 : decode cX10_split 120 = .ok (.getfield 68, 3) := by decide +kernel
theorem dX10_split_123 : decode cX10_split 123 = .ok (.iload_n 1, 1) := by decide +kernel
theorem dX10_split_124 : decode cX10_split 124 = .ok (.iaload, 1) := by decide +kernel
theorem dX10_split_125 : decode cX10_split 125 = .ok (.iastore, 1) := by decide +kernel
theorem dX10_split_126 : decode cX10_split 126 = .ok (.aload_n 0, 1) := by decide +kernel
theorem dX10_split_127 : decode cX10_split 127 = .ok (.getfield 74, 3) := by decide +kernel
theorem dX10_split_130 : decode cX10_split 130 = .ok (.iload_n 3, 1) := by decide +kernel
theorem dX10_split_131 : decode cX10_split 131 = .ok (.aload_n 0, 1) := by decide +kernel
theorem dX10_split_132 : decode cX10_split 132 = .ok (.getfield 74, 3) := by decide +kernel
theorem dX10_split_135 : decode cX10_split 135 = .ok (.iload_n 1, 1) := by decide +kernel
theorem dX10_split_136 : decode cX10_split 136 = .ok (.baload, 1) := by decide +kernel
theorem dX10_split_137 : decode cX10_split 137 = .ok (.bastore, 1) := by decide +kernel
theorem dX10_split_138 : decode cX10_split 138 = .ok (.aload_n 0, 1) := by decide +kernel
theorem dX10_split_139 : decode cX10_split 139 = .ok (.getfield 77, 3) := by decide +kernel
theorem dX10_split_142 : decode cX10_split 142 = .ok (.iload_n 3, 1) := by decide +kernel
theorem dX10_split_143 : decode cX10_split 143 = .ok (.aload_n 0, 1) := by decide +kernel
theorem dX10_split_144 : decode cX10_split 144 = .ok (.getfield 77, 3) := by decide +kernel
theorem dX10_split_147 : decode cX10_split 147 = .ok (.iload_n 1, 1) := by decide +kernel
theorem dX10_split_148 : decode cX10_split 148 = .ok (.iaload, 1) := by decide +kernel
theorem dX10_split_149 : decode cX10_split 149 = .ok (.iastore, 1) := by decide +kernel
theorem dX10_split_150 : decode cX10_split 150 = .ok (.aload_n 0, 1) := by decide +kernel
theorem dX10_split_151 : decode cX10_split 151 = .ok (.iload_n 1, 1) := by decide +kernel
theorem dX10_split_152 : decode cX10_split 152 = .ok (.iload_n 2, 1) := by decide +kernel
theorem dX10_split_153 : decode cX10_split 153 = .ok (.iload_n 3, 1) := by decide +kernel
theorem dX10_split_154 : decode cX10_split 154 = .ok (.invokevirtual 232, 3) := by decide +kernel
theorem dX10_split_157 : decode cX10_split 157 = .ok (.iload_n 3, 1) := by decide +kernel
theorem dX10_split_158 : decode cX10_split 158 = .ok (.ireturn, 1) := by decide +kernel
theorem dX10_canJoin_0 : decode cX10_canJoin 0 = .ok (.aload_n 0, 1) := by decide +kernel
theorem dX10_canJoin_1 : decode cX10_canJoin 1 = .ok (.getfield 62, 3) := by decide +kernel
theorem dX10_canJoin_4 : decode cX10_canJoin 4 = .ok (.iload_n 1, 1) := by decide +kernel
theorem dX10_canJoin_5 : decode cX10_canJoin 5 = .ok (.iaload, 1) := by decide +kernel
theorem dX10_canJoin_6 : decode cX10_canJoin 6 = .ok (.iconst 1, 1) := by decide +kernel
theorem dX10_canJoin_7 : decode cX10_canJoin 7 = .ok (.if_icmp .ne 47, 3) := by decide +kernel
theorem dX10_canJoin_10 : decode cX10_canJoin 10 = .ok (.aload_n 0, 1) := by decide +kernel
theorem dX10_canJoin_11 : decode cX10_canJoin 11 = .ok (.getfield 62, 3) := by decide +kernel
theorem dX10_canJoin_14 : decode cX10_canJoin 14 = .ok (.iload_n 2, 1) := by decide +kernel
theorem dX10_canJoin_15 : decode cX10_canJoin 15 = .ok (.iaload, 1) := by decide +kernel
theorem dX10_canJoin_16 : decode cX10_canJoin 16 = .ok (.iconst 1, 1) := by decide +kernel
theorem dX10_canJoin_17 : decode cX10_canJoin 17 = .ok (.if_icmp .ne 37, 3) := by decide +kernel
theorem dX10_canJoin_20 : decode cX10_canJoin 20 = .ok (.aload_n 0, 1) := by decide +kernel
theorem dX10_canJoin_21 : decode cX10_canJoin 21 = .ok (.getfield 53, 3) := by decide +kernel
theorem dX10_canJoin_24 : decode cX10_canJoin 24 = .ok (.iload_n 1, 1) := by decide +kernel
theorem dX10_canJoin_25 : decode cX10_canJoin 25 = .ok (.iaload, 1) := by decide +kernel
theorem dX10_canJoin_26 : decode cX10_canJoin 26 = .ok (.aload_n 0, 1) := by decide +kernel
theorem dX10_canJoin_27 : decode cX10_canJoin 27 = .ok (.getfield 53, 3) := by decide +kernel
theorem dX10_canJoin_30 : decode cX10_canJoin 30 = .ok (.iload_n 2, 1) := by decide +kernel
theorem dX10_canJoin_31 : decode cX10_canJoin 31 = .ok (.iaload, 1) := by decide +kernel
theorem dX10_canJoin_32 : decode cX10_canJoin 32 = .ok (.if_icmp .ne 22, 3) := by decide +kernel
theorem dX10_canJoin_35 : decode cX10_canJoin 35 = .ok (.aload_n 0, 1) := by decide +kernel
theorem dX10_canJoin_36 : decode cX10_canJoin 36 = .ok (.getfield 65, 3) := by decide +kernel
theorem dX10_canJoin_39 : decode cX10_canJoin 39 = .ok (.iload_n 1, 1) := by decide +kernel
theorem dX10_canJoin_40 : decode cX10_canJoin 40 = .ok (.iaload, 1) := by decide +kernel
theorem dX10_canJoin_41 : decode cX10_canJoin 41 = .ok (.aload_n 0, 1) := by decide +kernel
theorem dX10_canJoin_42 : decode cX10_canJoin 42 = .ok (.getfield 65, 3) := by decide +kernel
theorem dX10_canJoin_45 : decode cX10_canJoin 45 = .ok (.iload_n 2, 1) := by decide +kernel
theorem dX10_canJoin_46 : decode cX10_canJoin 46 = .ok (.iaload, 1) := by decide +kernel
theorem dX10_canJoin_47 : decode cX10_canJoin 47 = .ok (.if_icmp .ne 7, 3) := by decide +kernel
theorem dX10_canJoin_50 : decode cX10_canJoin 50 = .ok (.iconst 1, 1) := by decide +kernel
theorem dX10_canJoin_51 : decode cX10_canJoin 51 = .ok (.goto 4, 3) := by decide +kernel
theorem dX10_canJoin_54 : decode cX10_canJoin 54 = .ok (.iconst 0, 1) := by decide +kernel
theorem dX10_canJoin_55 : decode cX10_canJoin 55 = .ok (.istore_n 3, 1) := by decide +kernel
theorem dX10_canJoin_56 : decode cX10_canJoin 56 = .ok (.iload_n 3, 1) := by decide +kernel
theorem dX10_canJoin_57 : decode cX10_canJoin 57 = .ok (.ifCond .eq 34, 3) := by decide +kernel
theorem dX10_canJoin_60 : decode cX10_canJoin 60 = .ok (.aload_n 0, 1) := by decide +kernel
theorem dX10_canJoin_61 : decode cX10_canJoin 61 = .ok (.getfield 71, 3) := by decide +kernel
theorem dX10_canJoin_64 : decode cX10_canJoin 64 = .ok (.iload_n 1, 1) := by decide +kernel
theorem dX10_canJoin_65 : decode cX10_canJoin 65 = .ok (.baload, 1) := by decide +kernel
theorem dX10_canJoin_66 : decode cX10_canJoin 66 = .ok (.ifCond .ne 25, 3) := by decide +kernel
theorem dX10_canJoin_69 : decode cX10_canJoin 69 = .ok (.aload_n 0, 1) := by decide +kernel
theorem dX10_canJoin_70 : decode cX10_canJoin 70 = .ok (.getfield 71, 3) := by decide +kernel
theorem dX10_canJoin_73 : decode cX10_canJoin 73 = .ok (.iload_n 2, 1) := by decide +kernel
theorem dX10_canJoin_74 : decode cX10_canJoin 74 = .ok (.baload, 1) := by decide +kernel
theorem dX10_canJoin_75 : decode cX10_canJoin 75 = .ok (.ifCond .ne 16, 3) := by decide +kernel
theorem dX10_canJoin_78 : decode cX10_canJoin 78 = .ok (.aload_n 0, 1) := by decide +kernel
theorem dX10_canJoin_79 : decode cX10_canJoin 79 = .ok (.getfield 176, 3) := by decide +kernel
theorem dX10_canJoin_82 : decode cX10_canJoin 82 = .ok (.bipush 60, 2) := by decide +kernel
theorem dX10_canJoin_84 : decode cX10_canJoin 84 = .ok (.if_icmp .ge 7, 3) := by decide +kernel
theorem dX10_canJoin_87 : decode cX10_canJoin 87 = .ok (.iconst 1, 1) := by decide +kernel
theorem dX10_canJoin_88 : decode cX10_canJoin 88 = .ok (.goto 4, 3) := by decide +kernel
theorem dX10_canJoin_91 : decode cX10_canJoin 91 = .ok (.iconst 0, 1) := by decide +kernel
theorem dX10_canJoin_92 : decode cX10_canJoin 92 = .ok (.ireturn, 1) := by decide +kernel
theorem dX10_join_0 : decode cX10_join 0 = .ok (.aload_n 0, 1) := by decide +kernel
theorem dX10_join_1 : decode cX10_join 1 = .ok (.aload_n 0, 1) := by decide +kernel
theorem dX10_join_2 : decode cX10_join 2 = .ok (.iload_n 1, 1) := by decide +kernel
theorem dX10_join_3 : decode cX10_join 3 = .ok (.invokevirtual 219, 3) := by decide +kernel
theorem dX10_join_6 : decode cX10_join 6 = .ok (.ifCond .eq 11, 3) := by decide +kernel
theorem dX10_join_9 : decode cX10_join 9 = .ok (.aload_n 0, 1) := by decide +kernel
theorem dX10_join_10 : decode cX10_join 10 = .ok (.iload_n 2, 1) := by decide +kernel
theorem dX10_join_11 : decode cX10_join 11 = .ok (.invokevirtual 219, 3) := by decide +kernel
theorem dX10_join_14 : decode cX10_join 14 = .ok (.ifCond .ne 7, 3) := by decide +kernel
theorem dX10_join_17 : decode cX10_join 17 = .ok (.iconst 1, 1) := by decide +kernel
theorem dX10_join_18 : decode cX10_join 18 = .ok (.goto 26, 3) := by decide +kernel
theorem dX10_join_21 : decode cX10_join 21 = .ok (.iload_n 1, 1) := by decide +kernel
theorem dX10_join_22 : decode cX10_join 22 = .ok (.iload_n 2, 1) := by decide +kernel
theorem dX10_join_23 : decode cX10_join 23 = .ok (.if_icmp .ne 7, 3) := by decide +kernel
theorem dX10_join_26 : decode cX10_join 26 = .ok (.iconst 2, 1) := by decide +kernel
theorem dX10_join_27 : decode cX10_join 27 = .ok (.goto 17, 3) := by decide +kernel
theorem dX10_join_30 : decode cX10_join 30 = .ok (.aload_n 0, 1) := by decide +kernel
theorem dX10_join_31 : decode cX10_join 31 = .ok (.iload_n 1, 1) := by decide +kernel
theorem dX10_join_32 : decode cX10_join 32 = .ok (.iload_n 2, 1) := by decide +kernel
theorem dX10_join_33 : decode cX10_join 33 = .ok (.invokevirtual 236, 3) := by decide +kernel
theorem dX10_join_36 : decode cX10_join 36 = .ok (.ifCond .ne 7, 3) := by decide +kernel
theorem dX10_join_39 : decode cX10_join 39 = .ok (.iconst 3, 1) := by decide +kernel
theorem dX10_join_40 : decode cX10_join 40 = .ok (.goto 4, 3) := by decide +kernel
theorem dX10_join_43 : decode cX10_join 43 = .ok (.iconst 0, 1) := by decide +kernel
theorem dX10_join_44 : decode cX10_join 44 = .ok (.putfield 168, 3) := by decide +kernel
theorem dX10_join_47 : decode cX10_join 47 = .ok (.aload_n 0, 1) := by decide +kernel
theorem dX10_join_48 : decode cX10_join 48 = .ok (.getfield 168, 3) := by decide +kernel
theorem dX10_join_51 : decode cX10_join 51 = .ok (.ifCond .le 5, 3) := by decide +kernel
theorem dX10_join_54 : decode cX10_join 54 = .ok (.iconst 0, 1) := by decide +kernel
theorem dX10_join_55 : decode cX10_join 55 = .ok (.ireturn, 1) := by decide +kernel
theorem dX10_join_56 : decode cX10_join 56 = .ok (.aload_n 0, 1) := by decide +kernel
theorem dX10_join_57 : decode cX10_join 57 = .ok (.aload_n 0, 1) := by decide +kernel
theorem dX10_join_58 : decode cX10_join 58 = .ok (.getfield 53, 3) := by decide +kernel
theorem dX10_join_61 : decode cX10_join 61 = .ok (.iload_n 1, 1) := by decide +kernel
theorem dX10_join_62 : decode cX10_join 62 = .ok (.iaload, 1) := by decide +kernel
theorem dX10_join_63 : decode cX10_join 63 = .ok (.aload_n 0, 1) := by decide +kernel
theorem dX10_join_64 : decode cX10_join 64 = .ok (.getfield 56, 3) := by decide +kernel
theorem dX10_join_67 : decode cX10_join 67 = .ok (.iload_n 1, 1) := by decide +kernel
theorem dX10_join_68 : decode cX10_join 68 = .ok (.iaload, 1) := by decide +kernel
theorem dX10_join_69 : decode cX10_join 69 = .ok (.aload_n 0, 1) := by decide +kernel
theorem dX10_join_70 : decode cX10_join 70 = .ok (.getfield 56, 3) := by decide +kernel
theorem dX10_join_73 : decode cX10_join 73 = .ok (.iload_n 2, 1) := by decide +kernel
theorem dX10_join_74 : decode cX10_join 74 = .ok (.iaload, 1) := by decide +kernel
theorem dX10_join_75 : decode cX10_join 75 = .ok (.iadd, 1) := by decide +kernel
theorem dX10_join_76 : decode cX10_join 76 = .ok (.iconst 1, 1) := by decide +kernel
theorem dX10_join_77 : decode cX10_join 77 = .ok (.invokevirtual 212, 3) := by decide +kernel
theorem dX10_join_80 : decode cX10_join 80 = .ok (.istore_n 3, 1) := by decide +kernel
theorem dX10_join_81 : decode cX10_join 81 = .ok (.aload_n 0, 1) := by decide +kernel
theorem dX10_join_82 : decode cX10_join 82 = .ok (.getfield 65, 3) := by decide +kernel
theorem dX10_join_85 : decode cX10_join 85 = .ok (.iload_n 3, 1) := by decide +kernel
theorem dX10_join_86 : decode cX10_join 86 = .ok (.aload_n 0, 1) := by decide +kernel
theorem dX10_join_87 : decode cX10_join 87 = .ok (.getfield 65, 3) := by decide +kernel
theorem dX10_join_90 : decode cX10_join 90 = .ok (.iload_n 1, 1) := by decide +kernel
theorem dX10_join_91 : decode cX10_join 91 = .ok (.iaload, 1) := by decide +kernel
theorem dX10_join_92 : decode cX10_join 92 = .ok (.iastore, 1) := by decide +kernel
theorem dX10_join_93 : decode cX10_join 93 = .ok (.aload_n 0, 1) := by decide +kernel
theorem dX10_join_94 : decode cX10_join 94 = .ok (.getfield 68, 3) := by decide +kernel
theorem dX10_join_97 : decode cX10_join 97 = .ok (.iload_n 3, 1) := by decide +kernel
theorem dX10_join_98 : decode cX10_join 98 = .ok (.aload_n 0, 1) := by decide +kernel
theorem dX10_join_99 : decode cX10_join 99 = .ok (.getfield 68, 3) := by decide +kernel
theorem dX10_join_102 : decode cX10_join 102 = .ok (.iload_n 1, 1) := by decide +kernel
theorem dX10_join_103 : decode cX10_join 103 = .ok (.iaload, 1) := by decide +kernel
theorem dX10_join_104 : decode cX10_join 104 = .ok (.aload_n 0, 1) := by decide +kernel
theorem dX10_join_105 : decode cX10_join 105 = .ok (.getfield 68, 3) := by decide +kernel
theorem dX10_join_108 : decode cX10_join 108 = .ok (.iload_n 2, 1) := by decide +kernel
theorem dX10_join_109 : decode cX10_join 109 = .ok (.iaload, 1) := by decide +kernel
theorem dX10_join_110 : decode cX10_join 110 = .ok (.if_icmp .le 12, 3) := by decide +kernel
theorem dX10_join_113 : decode cX10_join 113 = .ok (.aload_n 0, 1) := by decide +kernel
theorem dX10_join_114 : decode cX10_join 114 = .ok (.getfield 68, 3) := by decide +kernel
theorem dX10_join_117 : decode cX10_join 117 = .ok (.iload_n 1, 1) := by decide +kernel
theorem dX10_join_118 : decode cX10_join 118 = .ok (.iaload, 1) := by decide +kernel
theorem dX10_join_119 : decode cX10_join 119 = .ok (.goto 9, 3) := by decide +kernel
theorem dX10_join_122 : decode cX10_join 122 = .ok (.aload_n 0, 1) := by decide +kernel
theorem dX10_join_123 : decode cX10_join 123 = .ok (.getfield 68, 3) := by decide +kernel
theorem dX10_join_126 : decode cX10_join 126 = .ok (.iload_n 2, 1) := by decide +kernel
theorem dX10_join_127 : decode cX10_join 127 = .ok (.iaload, 1) := by decide +kernel
theorem dX10_join_128 : decode cX10_join 128 = .ok (.iastore, 1) := by decide +kernel
theorem dX10_join_129 : decode cX10_join 129 = .ok (.aload_n 0, 1) := by decide +kernel
theorem dX10_join_130 : decode cX10_join 130 = .ok (.getfield 74, 3) := by decide +kernel
theorem dX10_join_133 : decode cX10_join 133 = .ok (.iload_n 3, 1) := by decide +kernel
theorem dX10_join_134 : decode cX10_join 134 = .ok (.aload_n 0, 1) := by decide +kernel
theorem dX10_join_135 : decode cX10_join 135 = .ok (.getfield 74, 3) := by decide +kernel
theorem dX10_join_138 : decode cX10_join 138 = .ok (.iload_n 1, 1) := by decide +kernel
theorem dX10_join_139 : decode cX10_join 139 = .ok (.baload, 1) := by decide +kernel
theorem dX10_join_140 : decode cX10_join 140 = .ok (.ifCond .ne 12, 3) := by decide +kernel
theorem dX10_join_143 : decode cX10_join 143 = .ok (.aload_n 0, 1) := by decide +kernel
theorem dX10_join_144 : decode cX10_join 144 = .ok (.getfield 74, 3) := by decide +kernel
theorem dX10_join_147 : decode cX10_join 147 = .ok (.iload_n 2, 1) := by decide +kernel
theorem dX10_join_148 : decode cX10_join 148 = .ok (.baload, 1) := by decide +kernel
theorem dX10_join_149 : decode cX10_join 149 = .ok (.ifCond .eq 7, 3) := by decide +kernel
theorem dX10_join_152 : decode cX10_join 152 = .ok (.iconst 1, 1) := by decide +kernel
theorem dX10_join_153 : decode cX10_join 153 = .ok (.goto 4, 3) := by decide +kernel
theorem dX10_join_156 : decode cX10_join 156 = .ok (.iconst 0, 1) := by decide +kernel
theorem dX10_join_157 : decode cX10_join 157 = .ok (.bastore, 1) := by decide +kernel
theorem dX10_join_158 : decode cX10_join 158 = .ok (.aload_n 0, 1) := by decide +kernel
theorem dX10_join_159 : decode cX10_join 159 = .ok (.getfield 77, 3) := by decide +kernel
theorem dX10_join_162 : decode cX10_join 162 = .ok (.iload_n 3, 1) := by decide +kernel
theorem dX10_join_163 : decode cX10_join 163 = .ok (.aload_n 0, 1) := by decide +kernel
theorem dX10_join_164 : decode cX10_join 164 = .ok (.getfield 77, 3) := by decide +kernel
theorem dX10_join_167 : decode cX10_join 167 = .ok (.iload_n 1, 1) := by decide +kernel
theorem dX10_join_168 : decode cX10_join 168 = .ok (.iaload, 1) := by decide +kernel
theorem dX10_join_169 : decode cX10_join 169 = .ok (.aload_n 0, 1) := by decide +kernel
theorem dX10_join_170 : decode cX10_join 170 = .ok (.getfield 77, 3) := by decide +kernel
theorem dX10_join_173 : decode cX10_join 173 = .ok (.iload_n 2, 1) := by decide +kernel
theorem dX10_join_174 : decode cX10_join 174 = .ok (.iaload, 1) := by decide +kernel
theorem dX10_join_175 : decode cX10_join 175 = .ok (.ior, 1) := by decide +kernel
theorem dX10_join_176 : decode cX10_join 176 = .ok (.iastore, 1) := by decide +kernel
theorem dX10_join_177 : decode cX10_join 177 = .ok (.aload_n 0, 1) := by decide +kernel
theorem dX10_join_178 : decode cX10_join 178 = .ok (.iload_n 1, 1) := by decide +kernel
theorem dX10_join_179 : decode cX10_join 179 = .ok (.aload_n 0, 1) := by decide +kernel
theorem dX10_join_180 : decode cX10_join 180 = .ok (.getfield 56, 3) := by decide +kernel
theorem dX10_join_183 : decode cX10_join 183 = .ok (.iload_n 1, 1) := by decide +kernel
theorem dX10_join_184 : decode cX10_join 184 = .ok (.iaload, 1) := by decide +kernel
theorem dX10_join_185 : decode cX10_join 185 = .ok (.iload_n 3, 1) := by decide +kernel
theorem dX10_join_186 : decode cX10_join 186 = .ok (.invokevirtual 232, 3) := by decide +kernel
theorem dX10_join_189 : decode cX10_join 189 = .ok (.aload_n 0, 1) := by decide +kernel
theorem dX10_join_190 : decode cX10_join 190 = .ok (.iload_n 2, 1) := by decide +kernel
theorem dX10_join_191 : decode cX10_join 191 = .ok (.aload_n 0, 1) := by decide +kernel
theorem dX10_join_192 : decode cX10_join 192 = .ok (.getfield 56, 3) := by decide +kernel
theorem dX10_join_195 : decode cX10_join 195 = .ok (.iload_n 2, 1) := by decide +kernel
theorem dX10_join_196 : decode cX10_join 196 = .ok (.iaload, 1) := by decide +kernel
theorem dX10_join_197 : decode cX10_join 197 = .ok (.iload_n 3, 1) := by decide +kernel
theorem dX10_join_198 : decode cX10_join 198 = .ok (.invokevirtual 232, 3) := by decide +kernel
theorem dX10_join_201 : decode cX10_join 201 = .ok (.iload_n 3, 1) := by decide +kernel
theorem dX10_join_202 : decode cX10_join 202 = .ok (.ireturn, 1) := by decide +kernel
theorem dX10_leave_0 : decode cX10_leave 0 = .ok (.aload_n 0, 1) := by decide +kernel
theorem dX10_leave_1 : decode cX10_leave 1 = .ok (.getfield 108, 3) := by decide +kernel
theorem dX10_leave_4 : decode cX10_leave 4 = .ok (.iload_n 1, 1) := by decide +kernel
theorem dX10_leave_5 : decode cX10_leave 5 = .ok (.iconst (-1), 1) := by decide +kernel
theorem dX10_leave_6 : decode cX10_leave 6 = .ok (.iastore, 1) := by decide +kernel
theorem dX10_leave_7 : decode cX10_leave 7 = .ok (.aload_n 0, 1) := by decide +kernel
theorem dX10_leave_8 : decode cX10_leave 8 = .ok (.getfield 114, 3) := by decide +kernel
theorem dX10_leave_11 : decode cX10_leave 11 = .ok (.iload_n 1, 1) := by decide +kernel
theorem dX10_leave_12 : decode cX10_leave 12 = .ok (.iconst (-1), 1) := by decide +kernel
theorem dX10_leave_13 : decode cX10_leave 13 = .ok (.iastore, 1) := by decide +kernel
theorem dX10_leave_14 : decode cX10_leave 14 = .ok (.aload_n 0, 1) := by decide +kernel
theorem dX10_leave_15 : decode cX10_leave 15 = .ok (.getfield 111, 3) := by decide +kernel
theorem dX10_leave_18 : decode cX10_leave 18 = .ok (.iload_n 1, 1) := by decide +kernel
theorem dX10_leave_19 : decode cX10_leave 19 = .ok (.iconst 0, 1) := by decide +kernel
theorem dX10_leave_20 : decode cX10_leave 20 = .ok (.iastore, 1) := by decide +kernel
theorem dX10_leave_21 : decode cX10_leave 21 = .ok (.aload_n 0, 1) := by decide +kernel
theorem dX10_leave_22 : decode cX10_leave 22 = .ok (.getfield 123, 3) := by decide +kernel
theorem dX10_leave_25 : decode cX10_leave 25 = .ok (.iload_n 1, 1) := by decide +kernel
theorem dX10_leave_26 : decode cX10_leave 26 = .ok (.aload_n 0, 1) := by decide +kernel
theorem dX10_leave_27 : decode cX10_leave 27 = .ok (.getfield 117, 3) := by decide +kernel
theorem dX10_leave_30 : decode cX10_leave 30 = .ok (.iload_n 1, 1) := by decide +kernel
theorem dX10_leave_31 : decode cX10_leave 31 = .ok (.iaload, 1) := by decide +kernel
theorem dX10_leave_32 : decode cX10_leave 32 = .ok (.aload_n 0, 1) := by decide +kernel
theorem dX10_leave_33 : decode cX10_leave 33 = .ok (.getfield 99, 3) := by decide +kernel
theorem dX10_leave_36 : decode cX10_leave 36 = .ok (.iload_n 1, 1) := by decide +kernel
theorem dX10_leave_37 : decode cX10_leave 37 = .ok (.iaload, 1) := by decide +kernel
theorem dX10_leave_38 : decode cX10_leave 38 = .ok (.if_icmp .lt 7, 3) := by decide +kernel
theorem dX10_leave_41 : decode cX10_leave 41 = .ok (.iconst 1, 1) := by decide +kernel
theorem dX10_leave_42 : decode cX10_leave 42 = .ok (.goto 9, 3) := by decide +kernel
theorem dX10_leave_45 : decode cX10_leave 45 = .ok (.aload_n 0, 1) := by decide +kernel
theorem dX10_leave_46 : decode cX10_leave 46 = .ok (.getfield 123, 3) := by decide +kernel
theorem dX10_leave_49 : decode cX10_leave 49 = .ok (.iload_n 1, 1) := by decide +kernel
theorem dX10_leave_50 : decode cX10_leave 50 = .ok (.iaload, 1) := by decide +kernel
theorem dX10_leave_51 : decode cX10_leave 51 = .ok (.iastore, 1) := by decide +kernel
theorem dX10_leave_52 : decode cX10_leave 52 = .ok (.return_, 1) := by decide +kernel
theorem dX10_scrap_0 : decode cX10_scrap 0 = .ok (.iconst 0, 1) := by decide +kernel
theorem dX10_scrap_1 : decode cX10_scrap 1 = .ok (.istore_n 2, 1) := by decide +kernel
theorem dX10_scrap_2 : decode cX10_scrap 2 = .ok (.iload_n 2, 1) := by decide +kernel
theorem dX10_scrap_3 : decode cX10_scrap 3 = .ok (.aload_n 0, 1) := by decide +kernel
theorem dX10_scrap_4 : decode cX10_scrap 4 = .ok (.getfield 183, 3) := by decide +kernel
theorem dX10_scrap_7 : decode cX10_scrap 7 = .ok (.if_icmp .ge 24, 3) := by decide +kernel
theorem dX10_scrap_10 : decode cX10_scrap 10 = .ok (.aload_n 0, 1) := by decide +kernel
theorem dX10_scrap_11 : decode cX10_scrap 11 = .ok (.getfield 108, 3) := by decide +kernel
theorem dX10_scrap_14 : decode cX10_scrap 14 = .ok (.iload_n 2, 1) := by decide +kernel
theorem dX10_scrap_15 : decode cX10_scrap 15 = .ok (.iaload, 1) := by decide +kernel
theorem dX10_scrap_16 : decode cX10_scrap 16 = .ok (.iload_n 1, 1) := by decide +kernel
theorem dX10_scrap_17 : decode cX10_scrap 17 = .ok (.if_icmp .ne 8, 3) := by decide +kernel
theorem dX10_scrap_20 : decode cX10_scrap 20 = .ok (.aload_n 0, 1) := by decide +kernel
theorem dX10_scrap_21 : decode cX10_scrap 21 = .ok (.iload_n 2, 1) := by decide +kernel
theorem dX10_scrap_22 : decode cX10_scrap 22 = .ok (.invokevirtual 239, 3) := by decide +kernel
theorem dX10_scrap_25 : decode cX10_scrap 25 = .ok (.iinc 2 1, 3) := by decide +kernel
theorem dX10_scrap_28 : decode cX10_scrap 28 = .ok (.goto (-26), 3) := by decide +kernel
theorem dX10_scrap_31 : decode cX10_scrap 31 = .ok (.aload_n 0, 1) := by decide +kernel
theorem dX10_scrap_32 : decode cX10_scrap 32 = .ok (.getfield 62, 3) := by decide +kernel
theorem dX10_scrap_35 : decode cX10_scrap 35 = .ok (.iload_n 1, 1) := by decide +kernel
theorem dX10_scrap_36 : decode cX10_scrap 36 = .ok (.iconst 5, 1) := by decide +kernel
theorem dX10_scrap_37 : decode cX10_scrap 37 = .ok (.iastore, 1) := by decide +kernel
theorem dX10_scrap_38 : decode cX10_scrap 38 = .ok (.return_, 1) := by decide +kernel
theorem dX10_settlePromises_0 : decode cX10_settlePromises 0 = .ok (.iconst 0, 1) := by decide +kernel
theorem dX10_settlePromises_1 : decode cX10_settlePromises 1 = .ok (.istore_n 1, 1) := by decide +kernel
theorem dX10_settlePromises_2 : decode cX10_settlePromises 2 = .ok (.iload_n 1, 1) := by decide +kernel
theorem dX10_settlePromises_3 : decode cX10_settlePromises 3 = .ok (.bipush 12, 2) := by decide +kernel
theorem dX10_settlePromises_5 : decode cX10_settlePromises 5 = .ok (.if_icmp .ge 100, 3) := by decide +kernel
theorem dX10_settlePromises_8 : decode cX10_settlePromises 8 = .ok (.aload_n 0, 1) := by decide +kernel
theorem dX10_settlePromises_9 : decode cX10_settlePromises 9 = .ok (.iload_n 1, 1) := by decide +kernel
theorem dX10_settlePromises_10 : decode cX10_settlePromises 10 = .ok (.invokevirtual 209, 3) := by decide +kernel
theorem dX10_settlePromises_13 : decode cX10_settlePromises 13 = .ok (.aload_n 0, 1) := by decide +kernel
theorem dX10_settlePromises_14 : decode cX10_settlePromises 14 = .ok (.iload_n 1, 1) := by decide +kernel
theorem dX10_settlePromises_15 : decode cX10_settlePromises 15 = .ok (.invokevirtual 206, 3) := by decide +kernel
theorem dX10_settlePromises_18 : decode cX10_settlePromises 18 = .ok (.isub, 1) := by decide +kernel
theorem dX10_settlePromises_19 : decode cX10_settlePromises 19 = .ok (.istore_n 2, 1) := by decide +kernel
theorem dX10_settlePromises_20 : decode cX10_settlePromises 20 = .ok (.aload_n 0, 1) := by decide +kernel
theorem dX10_settlePromises_21 : decode cX10_settlePromises 21 = .ok (.getfield 203, 3) := by decide +kernel
theorem dX10_settlePromises_24 : decode cX10_settlePromises 24 = .ok (.iconst 1, 1) := by decide +kernel
theorem dX10_settlePromises_25 : decode cX10_settlePromises 25 = .ok (.isub, 1) := by decide +kernel
theorem dX10_settlePromises_26 : decode cX10_settlePromises 26 = .ok (.istore_n 3, 1) := by decide +kernel
theorem dX10_settlePromises_27 : decode cX10_settlePromises 27 = .ok (.iload_n 3, 1) := by decide +kernel
theorem dX10_settlePromises_28 : decode cX10_settlePromises 28 = .ok (.ifCond .lt 71, 3) := by decide +kernel
theorem dX10_settlePromises_31 : decode cX10_settlePromises 31 = .ok (.iload_n 2, 1) := by decide +kernel
theorem dX10_settlePromises_32 : decode cX10_settlePromises 32 = .ok (.ifCond .le 67, 3) := by decide +kernel
theorem dX10_settlePromises_35 : decode cX10_settlePromises 35 = .ok (.aload_n 0, 1) := by decide +kernel
theorem dX10_settlePromises_36 : decode cX10_settlePromises 36 = .ok (.getfield 144, 3) := by decide +kernel
theorem dX10_settlePromises_39 : decode cX10_settlePromises 39 = .ok (.iload_n 3, 1) := by decide +kernel
theorem dX10_settlePromises_40 : decode cX10_settlePromises 40 = .ok (.iaload, 1) := by decide +kernel
theorem dX10_settlePromises_41 : decode cX10_settlePromises 41 = .ok (.iload_n 1, 1) := by decide +kernel
theorem dX10_settlePromises_42 : decode cX10_settlePromises 42 = .ok (.if_icmp .ne 51, 3) := by decide +kernel
theorem dX10_settlePromises_45 : decode cX10_settlePromises 45 = .ok (.aload_n 0, 1) := by decide +kernel
theorem dX10_settlePromises_46 : decode cX10_settlePromises 46 = .ok (.getfield 156, 3) := by decide +kernel
theorem dX10_settlePromises_49 : decode cX10_settlePromises 49 = .ok (.iload_n 3, 1) := by decide +kernel
theorem dX10_settlePromises_50 : decode cX10_settlePromises 50 = .ok (.iaload, 1) := by decide +kernel
theorem dX10_settlePromises_51 : decode cX10_settlePromises 51 = .ok (.iconst (-1), 1) := by decide +kernel
theorem dX10_settlePromises_52 : decode cX10_settlePromises 52 = .ok (.if_icmp .ne 41, 3) := by decide +kernel
theorem dX10_settlePromises_55 : decode cX10_settlePromises 55 = .ok (.iload_n 2, 1) := by decide +kernel
theorem dX10_settlePromises_56 : decode cX10_settlePromises 56 = .ok (.aload_n 0, 1) := by decide +kernel
theorem dX10_settlePromises_57 : decode cX10_settlePromises 57 = .ok (.getfield 153, 3) := by decide +kernel
theorem dX10_settlePromises_60 : decode cX10_settlePromises 60 = .ok (.iload_n 3, 1) := by decide +kernel
theorem dX10_settlePromises_61 : decode cX10_settlePromises 61 = .ok (.iaload, 1) := by decide +kernel
theorem dX10_settlePromises_62 : decode cX10_settlePromises 62 = .ok (.if_icmp .ge 7, 3) := by decide +kernel
theorem dX10_settlePromises_65 : decode cX10_settlePromises 65 = .ok (.iload_n 2, 1) := by decide +kernel
theorem dX10_settlePromises_66 : decode cX10_settlePromises 66 = .ok (.goto 9, 3) := by decide +kernel
theorem dX10_settlePromises_69 : decode cX10_settlePromises 69 = .ok (.aload_n 0, 1) := by decide +kernel
theorem dX10_settlePromises_70 : decode cX10_settlePromises 70 = .ok (.getfield 153, 3) := by decide +kernel
theorem dX10_settlePromises_73 : decode cX10_settlePromises 73 = .ok (.iload_n 3, 1) := by decide +kernel
theorem dX10_settlePromises_74 : decode cX10_settlePromises 74 = .ok (.iaload, 1) := by decide +kernel
theorem dX10_settlePromises_75 : decode cX10_settlePromises 75 = .ok (.istore 4, 2) := by decide +kernel
theorem dX10_settlePromises_77 : decode cX10_settlePromises 77 = .ok (.aload_n 0, 1) := by decide +kernel
theorem dX10_settlePromises_78 : decode cX10_settlePromises 78 = .ok (.getfield 153, 3) := by decide +kernel
theorem dX10_settlePromises_81 : decode cX10_settlePromises 81 = .ok (.iload_n 3, 1) := by decide +kernel
theorem dX10_settlePromises_82 : decode cX10_settlePromises 82 = .ok (.dup2, 1) := by decide +kernel
theorem dX10_settlePromises_83 : decode cX10_settlePromises 83 = .ok (.iaload, 1) := by decide +kernel
theorem dX10_settlePromises_84 : decode cX10_settlePromises 84 = .ok (.iload 4, 2) := by decide +kernel
theorem dX10_settlePromises_86 : decode cX10_settlePromises 86 = .ok (.isub, 1) := by decide +kernel
theorem dX10_settlePromises_87 : decode cX10_settlePromises 87 = .ok (.iastore, 1) := by decide +kernel
theorem dX10_settlePromises_88 : decode cX10_settlePromises 88 = .ok (.iload_n 2, 1) := by decide +kernel
theorem dX10_settlePromises_89 : decode cX10_settlePromises 89 = .ok (.iload 4, 2) := by decide +kernel
theorem dX10_settlePromises_91 : decode cX10_settlePromises 91 = .ok (.isub, 1) := by decide +kernel
theorem dX10_settlePromises_92 : decode cX10_settlePromises 92 = .ok (.istore_n 2, 1) := by decide +kernel
theorem dX10_settlePromises_93 : decode cX10_settlePromises 93 = .ok (.iinc 3 (-1), 3) := by decide +kernel
theorem dX10_settlePromises_96 : decode cX10_settlePromises 96 = .ok (.goto (-69), 3) := by decide +kernel
theorem dX10_settlePromises_99 : decode cX10_settlePromises 99 = .ok (.iinc 1 1, 3) := by decide +kernel
theorem dX10_settlePromises_102 : decode cX10_settlePromises 102 = .ok (.goto (-100), 3) := by decide +kernel
theorem dX10_settlePromises_105 : decode cX10_settlePromises 105 = .ok (.return_, 1) := by decide +kernel
theorem dX10_recall_0 : decode cX10_recall 0 = .ok (.aload_n 0, 1) := by decide +kernel
theorem dX10_recall_1 : decode cX10_recall 1 = .ok (.aload_n 0, 1) := by decide +kernel
theorem dX10_recall_2 : decode cX10_recall 2 = .ok (.iload_n 1, 1) := by decide +kernel
theorem dX10_recall_3 : decode cX10_recall 3 = .ok (.invokevirtual 219, 3) := by decide +kernel
theorem dX10_recall_6 : decode cX10_recall 6 = .ok (.ifCond .eq 7, 3) := by decide +kernel
theorem dX10_recall_9 : decode cX10_recall 9 = .ok (.iconst 0, 1) := by decide +kernel
theorem dX10_recall_10 : decode cX10_recall 10 = .ok (.goto 4, 3) := by decide +kernel
theorem dX10_recall_13 : decode cX10_recall 13 = .ok (.iconst 1, 1) := by decide +kernel
theorem dX10_recall_14 : decode cX10_recall 14 = .ok (.putfield 168, 3) := by decide +kernel
theorem dX10_recall_17 : decode cX10_recall 17 = .ok (.aload_n 0, 1) := by decide +kernel
theorem dX10_recall_18 : decode cX10_recall 18 = .ok (.getfield 168, 3) := by decide +kernel
theorem dX10_recall_21 : decode cX10_recall 21 = .ok (.ifCond .le 5, 3) := by decide +kernel
theorem dX10_recall_24 : decode cX10_recall 24 = .ok (.iconst 0, 1) := by decide +kernel
theorem dX10_recall_25 : decode cX10_recall 25 = .ok (.ireturn, 1) := by decide +kernel
theorem dX10_recall_26 : decode cX10_recall 26 = .ok (.lconst 1, 1) := by decide +kernel
theorem dX10_recall_27 : decode cX10_recall 27 = .ok (.iload_n 1, 1) := by decide +kernel
theorem dX10_recall_28 : decode cX10_recall 28 = .ok (.lshl, 1) := by decide +kernel
theorem dX10_recall_29 : decode cX10_recall 29 = .ok (.lstore_n 2, 1) := by decide +kernel
theorem dX10_recall_30 : decode cX10_recall 30 = .ok (.lconst 0, 1) := by decide +kernel
theorem dX10_recall_31 : decode cX10_recall 31 = .ok (.lstore 4, 2) := by decide +kernel
theorem dX10_recall_33 : decode cX10_recall 33 = .ok (.lload_n 2, 1) := by decide +kernel
theorem dX10_recall_34 : decode cX10_recall 34 = .ok (.lload 4, 2) := by decide +kernel
theorem dX10_recall_36 : decode cX10_recall 36 = .ok (.lcmp, 1) := by decide +kernel
theorem dX10_recall_37 : decode cX10_recall 37 = .ok (.ifCond .eq 53, 3) := by decide +kernel
theorem dX10_recall_40 : decode cX10_recall 40 = .ok (.lload_n 2, 1) := by decide +kernel
theorem dX10_recall_41 : decode cX10_recall 41 = .ok (.lstore 4, 2) := by decide +kernel
theorem dX10_recall_43 : decode cX10_recall 43 = .ok (.iconst 0, 1) := by decide +kernel
theorem dX10_recall_44 : decode cX10_recall 44 = .ok (.istore 6, 2) := by decide +kernel
theorem dX10_recall_46 : decode cX10_recall 46 = .ok (.iload 6, 2) := by decide +kernel
theorem dX10_recall_48 : decode cX10_recall 48 = .ok (.aload_n 0, 1) := by decide +kernel
theorem dX10_recall_49 : decode cX10_recall 49 = .ok (.getfield 176, 3) := by decide +kernel
theorem dX10_recall_52 : decode cX10_recall 52 = .ok (.if_icmp .ge 35, 3) := by decide +kernel
theorem dX10_recall_55 : decode cX10_recall 55 = .ok (.lload_n 2, 1) := by decide +kernel
theorem dX10_recall_56 : decode cX10_recall 56 = .ok (.aload_n 0, 1) := by decide +kernel
theorem dX10_recall_57 : decode cX10_recall 57 = .ok (.getfield 86, 3) := by decide +kernel
theorem dX10_recall_60 : decode cX10_recall 60 = .ok (.iload 6, 2) := by decide +kernel
theorem dX10_recall_62 : decode cX10_recall 62 = .ok (.laload, 1) := by decide +kernel
theorem dX10_recall_63 : decode cX10_recall 63 = .ok (.lload 4, 2) := by decide +kernel
theorem dX10_recall_65 : decode cX10_recall 65 = .ok (.land, 1) := by decide +kernel
theorem dX10_recall_66 : decode cX10_recall 66 = .ok (.lconst 0, 1) := by decide +kernel
theorem dX10_recall_67 : decode cX10_recall 67 = .ok (.lcmp, 1) := by decide +kernel
theorem dX10_recall_68 : decode cX10_recall 68 = .ok (.ifCond .eq 10, 3) := by decide +kernel
theorem dX10_recall_71 : decode cX10_recall 71 = .ok (.lconst 1, 1) := by decide +kernel
theorem dX10_recall_72 : decode cX10_recall 72 = .ok (.iload 6, 2) := by decide +kernel
theorem dX10_recall_74 : decode cX10_recall 74 = .ok (.lshl, 1) := by decide +kernel
theorem dX10_recall_75 : decode cX10_recall 75 = .ok (.goto 4, 3) := by decide +kernel
theorem dX10_recall_78 : decode cX10_recall 78 = .ok (.lconst 0, 1) := by decide +kernel
theorem dX10_recall_79 : decode cX10_recall 79 = .ok (.lor, 1) := by decide +kernel
theorem dX10_recall_80 : decode cX10_recall 80 = .ok (.lstore_n 2, 1) := by decide +kernel
theorem dX10_recall_81 : decode cX10_recall 81 = .ok (.iinc 6 1, 3) := by decide +kernel
theorem dX10_recall_84 : decode cX10_recall 84 = .ok (.goto (-38), 3) := by decide +kernel
theorem dX10_recall_87 : decode cX10_recall 87 = .ok (.goto (-54), 3) := by decide +kernel
theorem dX10_recall_90 : decode cX10_recall 90 = .ok (.iconst 0, 1) := by decide +kernel
theorem dX10_recall_91 : decode cX10_recall 91 = .ok (.istore 6, 2) := by decide +kernel
theorem dX10_recall_93 : decode cX10_recall 93 = .ok (.iconst 0, 1) := by decide +kernel
theorem dX10_recall_94 : decode cX10_recall 94 = .ok (.istore 7, 2) := by decide +kernel
theorem dX10_recall_96 : decode cX10_recall 96 = .ok (.iconst 0, 1) := by decide +kernel
theorem dX10_recall_97 : decode cX10_recall 97 = .ok (.istore 8, 2) := by decide +kernel
theorem dX10_recall_99 : decode cX10_recall 99 = .ok (.iload 8, 2) := by decide +kernel
theorem dX10_recall_101 : decode cX10_recall 101 = .ok (.aload_n 0, 1) := by decide +kernel
theorem dX10_recall_102 : decode cX10_recall 102 = .ok (.getfield 176, 3) := by decide +kernel
theorem dX10_recall_105 : decode cX10_recall 105 = .ok (.if_icmp .ge 79, 3) := by decide +kernel
theorem dX10_recall_108 : decode cX10_recall 108 = .ok (.lload_n 2, 1) := by decide +kernel
theorem dX10_recall_109 : decode cX10_recall 109 = .ok (.iload 8, 2) := by decide +kernel
theorem dX10_recall_111 : decode cX10_recall 111 = .ok (.lshr, 1) := by decide +kernel
theorem dX10_recall_112 : decode cX10_recall 112 = .ok (.lconst 1, 1) := by decide +kernel
theorem dX10_recall_113 : decode cX10_recall 113 = .ok (.land, 1) := by decide +kernel
theorem dX10_recall_114 : decode cX10_recall 114 = .ok (.lconst 1, 1) := by decide +kernel
theorem dX10_recall_115 : decode cX10_recall 115 = .ok (.lcmp, 1) := by decide +kernel
theorem dX10_recall_116 : decode cX10_recall 116 = .ok (.ifCond .ne 7, 3) := by decide +kernel
theorem dX10_recall_119 : decode cX10_recall 119 = .ok (.iconst 1, 1) := by decide +kernel
theorem dX10_recall_120 : decode cX10_recall 120 = .ok (.goto 4, 3) := by decide +kernel
theorem dX10_recall_123 : decode cX10_recall 123 = .ok (.iconst 0, 1) := by decide +kernel
theorem dX10_recall_124 : decode cX10_recall 124 = .ok (.istore 9, 2) := by decide +kernel
theorem dX10_recall_126 : decode cX10_recall 126 = .ok (.iload 7, 2) := by decide +kernel
theorem dX10_recall_128 : decode cX10_recall 128 = .ok (.iload 9, 2) := by decide +kernel
theorem dX10_recall_130 : decode cX10_recall 130 = .ok (.ifCond .eq 19, 3) := by decide +kernel
theorem dX10_recall_133 : decode cX10_recall 133 = .ok (.aload_n 0, 1) := by decide +kernel
theorem dX10_recall_134 : decode cX10_recall 134 = .ok (.getfield 62, 3) := by decide +kernel
theorem dX10_recall_137 : decode cX10_recall 137 = .ok (.iload 8, 2) := by decide +kernel
theorem dX10_recall_139 : decode cX10_recall 139 = .ok (.iaload, 1) := by decide +kernel
theorem dX10_recall_140 : decode cX10_recall 140 = .ok (.bipush 6, 2) := by decide +kernel
theorem dX10_recall_142 : decode cX10_recall 142 = .ok (.if_icmp .ne 7, 3) := by decide +kernel
theorem dX10_recall_145 : decode cX10_recall 145 = .ok (.iconst 1, 1) := by decide +kernel
theorem dX10_recall_146 : decode cX10_recall 146 = .ok (.goto 4, 3) := by decide +kernel
theorem dX10_recall_149 : decode cX10_recall 149 = .ok (.iconst 0, 1) := by decide +kernel
theorem dX10_recall_150 : decode cX10_recall 150 = .ok (.iadd, 1) := by decide +kernel
theorem dX10_recall_151 : decode cX10_recall 151 = .ok (.istore 7, 2) := by decide +kernel
theorem dX10_recall_153 : decode cX10_recall 153 = .ok (.iload 9, 2) := by decide +kernel
theorem dX10_recall_155 : decode cX10_recall 155 = .ok (.ifCond .eq 23, 3) := by decide +kernel
theorem dX10_recall_158 : decode cX10_recall 158 = .ok (.aload_n 0, 1) := by decide +kernel
theorem dX10_recall_159 : decode cX10_recall 159 = .ok (.getfield 62, 3) := by decide +kernel
theorem dX10_recall_162 : decode cX10_recall 162 = .ok (.iload 8, 2) := by decide +kernel
theorem dX10_recall_164 : decode cX10_recall 164 = .ok (.iaload, 1) := by decide +kernel
theorem dX10_recall_165 : decode cX10_recall 165 = .ok (.iconst 4, 1) := by decide +kernel
theorem dX10_recall_166 : decode cX10_recall 166 = .ok (.if_icmp .ge 12, 3) := by decide +kernel
theorem dX10_recall_169 : decode cX10_recall 169 = .ok (.aload_n 0, 1) := by decide +kernel
theorem dX10_recall_170 : decode cX10_recall 170 = .ok (.iload 8, 2) := by decide +kernel
theorem dX10_recall_172 : decode cX10_recall 172 = .ok (.invokevirtual 243, 3) := by decide +kernel
theorem dX10_recall_175 : decode cX10_recall 175 = .ok (.iinc 6 1, 3) := by decide +kernel
theorem dX10_recall_178 : decode cX10_recall 178 = .ok (.iinc 8 1, 3) := by decide +kernel
theorem dX10_recall_181 : decode cX10_recall 181 = .ok (.goto (-82), 3) := by decide +kernel
theorem dX10_recall_184 : decode cX10_recall 184 = .ok (.aload_n 0, 1) := by decide +kernel
theorem dX10_recall_185 : decode cX10_recall 185 = .ok (.invokevirtual 246, 3) := by decide +kernel
theorem dX10_recall_188 : decode cX10_recall 188 = .ok (.iload 6, 2) := by decide +kernel
theorem dX10_recall_190 : decode cX10_recall 190 = .ok (.bipush 100, 2) := by decide +kernel
theorem dX10_recall_192 : decode cX10_recall 192 = .ok (.iload 7, 2) := by decide +kernel
theorem dX10_recall_194 : decode cX10_recall 194 = .ok (.imul, 1) := by decide +kernel
theorem dX10_recall_195 : decode cX10_recall 195 = .ok (.iadd, 1) := by decide +kernel
theorem dX10_recall_196 : decode cX10_recall 196 = .ok (.ireturn, 1) := by decide +kernel
theorem dX10_isOrder_0 : decode cX10_isOrder 0 = .ok (.iload_n 1, 1) := by decide +kernel
theorem dX10_isOrder_1 : decode cX10_isOrder 1 = .ok (.iconst 0, 1) := by decide +kernel
theorem dX10_isOrder_2 : decode cX10_isOrder 2 = .ok (.aload_n 0, 1) := by decide +kernel
theorem dX10_isOrder_3 : decode cX10_isOrder 3 = .ok (.getfield 203, 3) := by decide +kernel
theorem dX10_isOrder_6 : decode cX10_isOrder 6 = .ok (.iconst 1, 1) := by decide +kernel
theorem dX10_isOrder_7 : decode cX10_isOrder 7 = .ok (.isub, 1) := by decide +kernel
theorem dX10_isOrder_8 : decode cX10_isOrder 8 = .ok (.invokestatic 172, 3) := by decide +kernel
theorem dX10_isOrder_11 : decode cX10_isOrder 11 = .ok (.ireturn, 1) := by decide +kernel
theorem dX10_order_0 : decode cX10_order 0 = .ok (.aload_n 0, 1) := by decide +kernel
theorem dX10_order_1 : decode cX10_order 1 = .ok (.iload_n 1, 1) := by decide +kernel
theorem dX10_order_2 : decode cX10_order 2 = .ok (.invokestatic 179, 3) := by decide +kernel
theorem dX10_order_5 : decode cX10_order 5 = .ok (.ifCond .ne 7, 3) := by decide +kernel
theorem dX10_order_8 : decode cX10_order 8 = .ok (.iconst 1, 1) := by decide +kernel
theorem dX10_order_9 : decode cX10_order 9 = .ok (.goto 42, 3) := by decide +kernel
theorem dX10_order_12 : decode cX10_order 12 = .ok (.iload_n 2, 1) := by decide +kernel
theorem dX10_order_13 : decode cX10_order 13 = .ok (.iconst 1, 1) := by decide +kernel
theorem dX10_order_14 : decode cX10_order 14 = .ok (.bipush 20, 2) := by decide +kernel
theorem dX10_order_16 : decode cX10_order 16 = .ok (.invokestatic 172, 3) := by decide +kernel
theorem dX10_order_19 : decode cX10_order 19 = .ok (.ifCond .eq 14, 3) := by decide +kernel
theorem dX10_order_22 : decode cX10_order 22 = .ok (.iload_n 3, 1) := by decide +kernel
theorem dX10_order_23 : decode cX10_order 23 = .ok (.iconst 0, 1) := by decide +kernel
theorem dX10_order_24 : decode cX10_order 24 = .ok (.sipush 999, 3) := by decide +kernel
theorem dX10_order_27 : decode cX10_order 27 = .ok (.invokestatic 172, 3) := by decide +kernel
theorem dX10_order_30 : decode cX10_order 30 = .ok (.ifCond .ne 7, 3) := by decide +kernel
theorem dX10_order_33 : decode cX10_order 33 = .ok (.iconst 2, 1) := by decide +kernel
theorem dX10_order_34 : decode cX10_order 34 = .ok (.goto 17, 3) := by decide +kernel
theorem dX10_order_37 : decode cX10_order 37 = .ok (.aload_n 0, 1) := by decide +kernel
theorem dX10_order_38 : decode cX10_order 38 = .ok (.getfield 203, 3) := by decide +kernel
theorem dX10_order_41 : decode cX10_order 41 = .ok (.bipush 10, 2) := by decide +kernel
theorem dX10_order_43 : decode cX10_order 43 = .ok (.if_icmp .ne 7, 3) := by decide +kernel
theorem dX10_order_46 : decode cX10_order 46 = .ok (.iconst 3, 1) := by decide +kernel
theorem dX10_order_47 : decode cX10_order 47 = .ok (.goto 4, 3) := by decide +kernel
theorem dX10_order_50 : decode cX10_order 50 = .ok (.iconst 0, 1) := by decide +kernel
theorem dX10_order_51 : decode cX10_order 51 = .ok (.putfield 168, 3) := by decide +kernel
theorem dX10_order_54 : decode cX10_order 54 = .ok (.aload_n 0, 1) := by decide +kernel
theorem dX10_order_55 : decode cX10_order 55 = .ok (.getfield 168, 3) := by decide +kernel
theorem dX10_order_58 : decode cX10_order 58 = .ok (.ifCond .le 5, 3) := by decide +kernel
theorem dX10_order_61 : decode cX10_order 61 = .ok (.iconst 0, 1) := by decide +kernel
theorem dX10_order_62 : decode cX10_order 62 = .ok (.ireturn, 1) := by decide +kernel
theorem dX10_order_63 : decode cX10_order 63 = .ok (.aload_n 0, 1) := by decide +kernel
theorem dX10_order_64 : decode cX10_order 64 = .ok (.getfield 144, 3) := by decide +kernel
theorem dX10_order_67 : decode cX10_order 67 = .ok (.aload_n 0, 1) := by decide +kernel
theorem dX10_order_68 : decode cX10_order 68 = .ok (.getfield 203, 3) := by decide +kernel
theorem dX10_order_71 : decode cX10_order 71 = .ok (.iload_n 1, 1) := by decide +kernel
theorem dX10_order_72 : decode cX10_order 72 = .ok (.iastore, 1) := by decide +kernel
theorem dX10_order_73 : decode cX10_order 73 = .ok (.aload_n 0, 1) := by decide +kernel
theorem dX10_order_74 : decode cX10_order 74 = .ok (.getfield 147, 3) := by decide +kernel
theorem dX10_order_77 : decode cX10_order 77 = .ok (.aload_n 0, 1) := by decide +kernel
theorem dX10_order_78 : decode cX10_order 78 = .ok (.getfield 203, 3) := by decide +kernel
theorem dX10_order_81 : decode cX10_order 81 = .ok (.iload_n 2, 1) := by decide +kernel
theorem dX10_order_82 : decode cX10_order 82 = .ok (.iastore, 1) := by decide +kernel
theorem dX10_order_83 : decode cX10_order 83 = .ok (.aload_n 0, 1) := by decide +kernel
theorem dX10_order_84 : decode cX10_order 84 = .ok (.getfield 150, 3) := by decide +kernel
theorem dX10_order_87 : decode cX10_order 87 = .ok (.aload_n 0, 1) := by decide +kernel
theorem dX10_order_88 : decode cX10_order 88 = .ok (.getfield 203, 3) := by decide +kernel
theorem dX10_order_91 : decode cX10_order 91 = .ok (.iload_n 3, 1) := by decide +kernel
theorem dX10_order_92 : decode cX10_order 92 = .ok (.iastore, 1) := by decide +kernel
theorem dX10_order_93 : decode cX10_order 93 = .ok (.aload_n 0, 1) := by decide +kernel
theorem dX10_order_94 : decode cX10_order 94 = .ok (.getfield 156, 3) := by decide +kernel
theorem dX10_order_97 : decode cX10_order 97 = .ok (.aload_n 0, 1) := by decide +kernel
theorem dX10_order_98 : decode cX10_order 98 = .ok (.getfield 203, 3) := by decide +kernel
theorem dX10_order_101 : decode cX10_order 101 = .ok (.iconst (-1), 1) := by decide +kernel
theorem dX10_order_102 : decode cX10_order 102 = .ok (.iastore, 1) := by decide +kernel
theorem dX10_order_103 : decode cX10_order 103 = .ok (.aload_n 0, 1) := by decide +kernel
theorem dX10_order_104 : decode cX10_order 104 = .ok (.dup, 1) := by decide +kernel
theorem dX10_order_105 : decode cX10_order 105 = .ok (.getfield 203, 3) := by decide +kernel
theorem dX10_order_108 : decode cX10_order 108 = .ok (.iconst 1, 1) := by decide +kernel
theorem dX10_order_109 : decode cX10_order 109 = .ok (.iadd, 1) := by decide +kernel
theorem dX10_order_110 : decode cX10_order 110 = .ok (.putfield 203, 3) := by decide +kernel
theorem dX10_order_113 : decode cX10_order 113 = .ok (.aload_n 0, 1) := by decide +kernel
theorem dX10_order_114 : decode cX10_order 114 = .ok (.getfield 203, 3) := by decide +kernel
theorem dX10_order_117 : decode cX10_order 117 = .ok (.iconst 1, 1) := by decide +kernel
theorem dX10_order_118 : decode cX10_order 118 = .ok (.isub, 1) := by decide +kernel
theorem dX10_order_119 : decode cX10_order 119 = .ok (.ireturn, 1) := by decide +kernel
theorem dX10_promise_0 : decode cX10_promise 0 = .ok (.aload_n 0, 1) := by decide +kernel
theorem dX10_promise_1 : decode cX10_promise 1 = .ok (.aload_n 0, 1) := by decide +kernel
theorem dX10_promise_2 : decode cX10_promise 2 = .ok (.iload_n 1, 1) := by decide +kernel
theorem dX10_promise_3 : decode cX10_promise 3 = .ok (.invokevirtual 249, 3) := by decide +kernel
theorem dX10_promise_6 : decode cX10_promise 6 = .ok (.ifCond .ne 7, 3) := by decide +kernel
theorem dX10_promise_9 : decode cX10_promise 9 = .ok (.iconst 1, 1) := by decide +kernel
theorem dX10_promise_10 : decode cX10_promise 10 = .ok (.goto 18, 3) := by decide +kernel
theorem dX10_promise_13 : decode cX10_promise 13 = .ok (.aload_n 0, 1) := by decide +kernel
theorem dX10_promise_14 : decode cX10_promise 14 = .ok (.getfield 156, 3) := by decide +kernel
theorem dX10_promise_17 : decode cX10_promise 17 = .ok (.iload_n 1, 1) := by decide +kernel
theorem dX10_promise_18 : decode cX10_promise 18 = .ok (.iaload, 1) := by decide +kernel
theorem dX10_promise_19 : decode cX10_promise 19 = .ok (.iconst (-1), 1) := by decide +kernel
theorem dX10_promise_20 : decode cX10_promise 20 = .ok (.if_icmp .eq 7, 3) := by decide +kernel
theorem dX10_promise_23 : decode cX10_promise 23 = .ok (.iconst 2, 1) := by decide +kernel
theorem dX10_promise_24 : decode cX10_promise 24 = .ok (.goto 4, 3) := by decide +kernel
theorem dX10_promise_27 : decode cX10_promise 27 = .ok (.iconst 0, 1) := by decide +kernel
theorem dX10_promise_28 : decode cX10_promise 28 = .ok (.putfield 168, 3) := by decide +kernel
theorem dX10_promise_31 : decode cX10_promise 31 = .ok (.aload_n 0, 1) := by decide +kernel
theorem dX10_promise_32 : decode cX10_promise 32 = .ok (.getfield 168, 3) := by decide +kernel
theorem dX10_promise_35 : decode cX10_promise 35 = .ok (.ifCond .le 5, 3) := by decide +kernel
theorem dX10_promise_38 : decode cX10_promise 38 = .ok (.iconst 0, 1) := by decide +kernel
theorem dX10_promise_39 : decode cX10_promise 39 = .ok (.ireturn, 1) := by decide +kernel
theorem dX10_promise_40 : decode cX10_promise 40 = .ok (.aload_n 0, 1) := by decide +kernel
theorem dX10_promise_41 : decode cX10_promise 41 = .ok (.getfield 147, 3) := by decide +kernel
theorem dX10_promise_44 : decode cX10_promise 44 = .ok (.iload_n 1, 1) := by decide +kernel
theorem dX10_promise_45 : decode cX10_promise 45 = .ok (.iaload, 1) := by decide +kernel
theorem dX10_promise_46 : decode cX10_promise 46 = .ok (.aload_n 0, 1) := by decide +kernel
theorem dX10_promise_47 : decode cX10_promise 47 = .ok (.getfield 153, 3) := by decide +kernel
theorem dX10_promise_50 : decode cX10_promise 50 = .ok (.iload_n 1, 1) := by decide +kernel
theorem dX10_promise_51 : decode cX10_promise 51 = .ok (.iaload, 1) := by decide +kernel
theorem dX10_promise_52 : decode cX10_promise 52 = .ok (.isub, 1) := by decide +kernel
theorem dX10_promise_53 : decode cX10_promise 53 = .ok (.istore_n 2, 1) := by decide +kernel
theorem dX10_promise_54 : decode cX10_promise 54 = .ok (.aload_n 0, 1) := by decide +kernel
theorem dX10_promise_55 : decode cX10_promise 55 = .ok (.aload_n 0, 1) := by decide +kernel
theorem dX10_promise_56 : decode cX10_promise 56 = .ok (.getfield 144, 3) := by decide +kernel
theorem dX10_promise_59 : decode cX10_promise 59 = .ok (.iload_n 1, 1) := by decide +kernel
theorem dX10_promise_60 : decode cX10_promise 60 = .ok (.iaload, 1) := by decide +kernel
theorem dX10_promise_61 : decode cX10_promise 61 = .ok (.invokevirtual 252, 3) := by decide +kernel
theorem dX10_promise_64 : decode cX10_promise 64 = .ok (.istore_n 3, 1) := by decide +kernel
theorem dX10_promise_65 : decode cX10_promise 65 = .ok (.aload_n 0, 1) := by decide +kernel
theorem dX10_promise_66 : decode cX10_promise 66 = .ok (.getfield 153, 3) := by decide +kernel
theorem dX10_promise_69 : decode cX10_promise 69 = .ok (.iload_n 1, 1) := by decide +kernel
theorem dX10_promise_70 : decode cX10_promise 70 = .ok (.dup2, 1) := by decide +kernel
theorem dX10_promise_71 : decode cX10_promise 71 = .ok (.iaload, 1) := by decide +kernel
theorem dX10_promise_72 : decode cX10_promise 72 = .ok (.iload_n 2, 1) := by decide +kernel
theorem dX10_promise_73 : decode cX10_promise 73 = .ok (.iload_n 3, 1) := by decide +kernel
theorem dX10_promise_74 : decode cX10_promise 74 = .ok (.if_icmp .ge 7, 3) := by decide +kernel
theorem dX10_promise_77 : decode cX10_promise 77 = .ok (.iload_n 2, 1) := by decide +kernel
theorem dX10_promise_78 : decode cX10_promise 78 = .ok (.goto 4, 3) := by decide +kernel
theorem dX10_promise_81 : decode cX10_promise 81 = .ok (.iload_n 3, 1) := by decide +kernel
theorem dX10_promise_82 : decode cX10_promise 82 = .ok (.iadd, 1) := by decide +kernel
theorem dX10_promise_83 : decode cX10_promise 83 = .ok (.iastore, 1) := by decide +kernel
theorem dX10_promise_84 : decode cX10_promise 84 = .ok (.aload_n 0, 1) := by decide +kernel
theorem dX10_promise_85 : decode cX10_promise 85 = .ok (.getfield 153, 3) := by decide +kernel
theorem dX10_promise_88 : decode cX10_promise 88 = .ok (.iload_n 1, 1) := by decide +kernel
theorem dX10_promise_89 : decode cX10_promise 89 = .ok (.iaload, 1) := by decide +kernel
theorem dX10_promise_90 : decode cX10_promise 90 = .ok (.ireturn, 1) := by decide +kernel
theorem dX10_ship_0 : decode cX10_ship 0 = .ok (.aload_n 0, 1) := by decide +kernel
theorem dX10_ship_1 : decode cX10_ship 1 = .ok (.aload_n 0, 1) := by decide +kernel
theorem dX10_ship_2 : decode cX10_ship 2 = .ok (.iload_n 1, 1) := by decide +kernel
theorem dX10_ship_3 : decode cX10_ship 3 = .ok (.invokevirtual 249, 3) := by decide +kernel
theorem dX10_ship_6 : decode cX10_ship 6 = .ok (.ifCond .ne 7, 3) := by decide +kernel
theorem dX10_ship_9 : decode cX10_ship 9 = .ok (.iconst 1, 1) := by decide +kernel
theorem dX10_ship_10 : decode cX10_ship 10 = .ok (.goto 42, 3) := by decide +kernel
theorem dX10_ship_13 : decode cX10_ship 13 = .ok (.aload_n 0, 1) := by decide +kernel
theorem dX10_ship_14 : decode cX10_ship 14 = .ok (.getfield 156, 3) := by decide +kernel
theorem dX10_ship_17 : decode cX10_ship 17 = .ok (.iload_n 1, 1) := by decide +kernel
theorem dX10_ship_18 : decode cX10_ship 18 = .ok (.iaload, 1) := by decide +kernel
theorem dX10_ship_19 : decode cX10_ship 19 = .ok (.iconst (-1), 1) := by decide +kernel
theorem dX10_ship_20 : decode cX10_ship 20 = .ok (.if_icmp .ne 27, 3) := by decide +kernel
theorem dX10_ship_23 : decode cX10_ship 23 = .ok (.aload_n 0, 1) := by decide +kernel
theorem dX10_ship_24 : decode cX10_ship 24 = .ok (.getfield 153, 3) := by decide +kernel
theorem dX10_ship_27 : decode cX10_ship 27 = .ok (.iload_n 1, 1) := by decide +kernel
theorem dX10_ship_28 : decode cX10_ship 28 = .ok (.iaload, 1) := by decide +kernel
theorem dX10_ship_29 : decode cX10_ship 29 = .ok (.aload_n 0, 1) := by decide +kernel
theorem dX10_ship_30 : decode cX10_ship 30 = .ok (.getfield 147, 3) := by decide +kernel
theorem dX10_ship_33 : decode cX10_ship 33 = .ok (.iload_n 1, 1) := by decide +kernel
theorem dX10_ship_34 : decode cX10_ship 34 = .ok (.iaload, 1) := by decide +kernel
theorem dX10_ship_35 : decode cX10_ship 35 = .ok (.if_icmp .lt 12, 3) := by decide +kernel
theorem dX10_ship_38 : decode cX10_ship 38 = .ok (.aload_n 0, 1) := by decide +kernel
theorem dX10_ship_39 : decode cX10_ship 39 = .ok (.getfield 176, 3) := by decide +kernel
theorem dX10_ship_42 : decode cX10_ship 42 = .ok (.bipush 60, 2) := by decide +kernel
theorem dX10_ship_44 : decode cX10_ship 44 = .ok (.if_icmp .ne 7, 3) := by decide +kernel
theorem dX10_ship_47 : decode cX10_ship 47 = .ok (.iconst 2, 1) := by decide +kernel
theorem dX10_ship_48 : decode cX10_ship 48 = .ok (.goto 4, 3) := by decide +kernel
theorem dX10_ship_51 : decode cX10_ship 51 = .ok (.iconst 0, 1) := by decide +kernel
theorem dX10_ship_52 : decode cX10_ship 52 = .ok (.putfield 168, 3) := by decide +kernel
theorem dX10_ship_55 : decode cX10_ship 55 = .ok (.aload_n 0, 1) := by decide +kernel
theorem dX10_ship_56 : decode cX10_ship 56 = .ok (.getfield 168, 3) := by decide +kernel
theorem dX10_ship_59 : decode cX10_ship 59 = .ok (.ifCond .le 5, 3) := by decide +kernel
theorem dX10_ship_62 : decode cX10_ship 62 = .ok (.iconst 0, 1) := by decide +kernel
theorem dX10_ship_63 : decode cX10_ship 63 = .ok (.ireturn, 1) := by decide +kernel
theorem dX10_ship_64 : decode cX10_ship 64 = .ok (.aload_n 0, 1) := by decide +kernel
theorem dX10_ship_65 : decode cX10_ship 65 = .ok (.getfield 144, 3) := by decide +kernel
theorem dX10_ship_68 : decode cX10_ship 68 = .ok (.iload_n 1, 1) := by decide +kernel
theorem dX10_ship_69 : decode cX10_ship 69 = .ok (.iaload, 1) := by decide +kernel
theorem dX10_ship_70 : decode cX10_ship 70 = .ok (.istore_n 2, 1) := by decide +kernel
theorem dX10_ship_71 : decode cX10_ship 71 = .ok (.aload_n 0, 1) := by decide +kernel
theorem dX10_ship_72 : decode cX10_ship 72 = .ok (.iload_n 2, 1) := by decide +kernel
theorem dX10_ship_73 : decode cX10_ship 73 = .ok (.aload_n 0, 1) := by decide +kernel
theorem dX10_ship_74 : decode cX10_ship 74 = .ok (.getfield 147, 3) := by decide +kernel
theorem dX10_ship_77 : decode cX10_ship 77 = .ok (.iload_n 1, 1) := by decide +kernel
theorem dX10_ship_78 : decode cX10_ship 78 = .ok (.iaload, 1) := by decide +kernel
theorem dX10_ship_79 : decode cX10_ship 79 = .ok (.bipush 6, 2) := by decide +kernel
theorem dX10_ship_81 : decode cX10_ship 81 = .ok (.invokevirtual 212, 3) := by decide +kernel
theorem dX10_ship_84 : decode cX10_ship 84 = .ok (.istore_n 3, 1) := by decide +kernel
theorem dX10_ship_85 : decode cX10_ship 85 = .ok (.aload_n 0, 1) := by decide +kernel
theorem dX10_ship_86 : decode cX10_ship 86 = .ok (.getfield 65, 3) := by decide +kernel
theorem dX10_ship_89 : decode cX10_ship 89 = .ok (.iload_n 3, 1) := by decide +kernel
theorem dX10_ship_90 : decode cX10_ship 90 = .ok (.aload_n 0, 1) := by decide +kernel
theorem dX10_ship_91 : decode cX10_ship 91 = .ok (.getfield 31, 3) := by decide +kernel
theorem dX10_ship_94 : decode cX10_ship 94 = .ok (.iload_n 2, 1) := by decide +kernel
theorem dX10_ship_95 : decode cX10_ship 95 = .ok (.iaload, 1) := by decide +kernel
theorem dX10_ship_96 : decode cX10_ship 96 = .ok (.iastore, 1) := by decide +kernel
theorem dX10_ship_97 : decode cX10_ship 97 = .ok (.aload_n 0, 1) := by decide +kernel
theorem dX10_ship_98 : decode cX10_ship 98 = .ok (.getfield 156, 3) := by decide +kernel
theorem dX10_ship_101 : decode cX10_ship 101 = .ok (.iload_n 1, 1) := by decide +kernel
theorem dX10_ship_102 : decode cX10_ship 102 = .ok (.iload_n 3, 1) := by decide +kernel
theorem dX10_ship_103 : decode cX10_ship 103 = .ok (.iastore, 1) := by decide +kernel
theorem dX10_ship_104 : decode cX10_ship 104 = .ok (.aload_n 0, 1) := by decide +kernel
theorem dX10_ship_105 : decode cX10_ship 105 = .ok (.getfield 159, 3) := by decide +kernel
theorem dX10_ship_108 : decode cX10_ship 108 = .ok (.iload_n 1, 1) := by decide +kernel
theorem dX10_ship_109 : decode cX10_ship 109 = .ok (.aload_n 0, 1) := by decide +kernel
theorem dX10_ship_110 : decode cX10_ship 110 = .ok (.getfield 193, 3) := by decide +kernel
theorem dX10_ship_113 : decode cX10_ship 113 = .ok (.iastore, 1) := by decide +kernel
theorem dX10_ship_114 : decode cX10_ship 114 = .ok (.aload_n 0, 1) := by decide +kernel
theorem dX10_ship_115 : decode cX10_ship 115 = .ok (.iload_n 2, 1) := by decide +kernel
theorem dX10_ship_116 : decode cX10_ship 116 = .ok (.aload_n 0, 1) := by decide +kernel
theorem dX10_ship_117 : decode cX10_ship 117 = .ok (.getfield 147, 3) := by decide +kernel
theorem dX10_ship_120 : decode cX10_ship 120 = .ok (.iload_n 1, 1) := by decide +kernel
theorem dX10_ship_121 : decode cX10_ship 121 = .ok (.iaload, 1) := by decide +kernel
theorem dX10_ship_122 : decode cX10_ship 122 = .ok (.iload_n 3, 1) := by decide +kernel
theorem dX10_ship_123 : decode cX10_ship 123 = .ok (.invokevirtual 255, 3) := by decide +kernel
theorem dX10_ship_126 : decode cX10_ship 126 = .ok (.iload_n 3, 1) := by decide +kernel
theorem dX10_ship_127 : decode cX10_ship 127 = .ok (.ireturn, 1) := by decide +kernel
theorem dX10_arrive_0 : decode cX10_arrive 0 = .ok (.iconst 0, 1) := by decide +kernel
theorem dX10_arrive_1 : decode cX10_arrive 1 = .ok (.istore_n 1, 1) := by decide +kernel
theorem dX10_arrive_2 : decode cX10_arrive 2 = .ok (.iload_n 1, 1) := by decide +kernel
theorem dX10_arrive_3 : decode cX10_arrive 3 = .ok (.aload_n 0, 1) := by decide +kernel
theorem dX10_arrive_4 : decode cX10_arrive 4 = .ok (.getfield 176, 3) := by decide +kernel
theorem dX10_arrive_7 : decode cX10_arrive 7 = .ok (.if_icmp .ge 89, 3) := by decide +kernel
theorem dX10_arrive_10 : decode cX10_arrive 10 = .ok (.aload_n 0, 1) := by decide +kernel
theorem dX10_arrive_11 : decode cX10_arrive 11 = .ok (.getfield 62, 3) := by decide +kernel
theorem dX10_arrive_14 : decode cX10_arrive 14 = .ok (.iload_n 1, 1) := by decide +kernel
theorem dX10_arrive_15 : decode cX10_arrive 15 = .ok (.iaload, 1) := by decide +kernel
theorem dX10_arrive_16 : decode cX10_arrive 16 = .ok (.ifCond .ne 20, 3) := by decide +kernel
theorem dX10_arrive_19 : decode cX10_arrive 19 = .ok (.aload_n 0, 1) := by decide +kernel
theorem dX10_arrive_20 : decode cX10_arrive 20 = .ok (.getfield 83, 3) := by decide +kernel
theorem dX10_arrive_23 : decode cX10_arrive 23 = .ok (.iload_n 1, 1) := by decide +kernel
theorem dX10_arrive_24 : decode cX10_arrive 24 = .ok (.iaload, 1) := by decide +kernel
theorem dX10_arrive_25 : decode cX10_arrive 25 = .ok (.aload_n 0, 1) := by decide +kernel
theorem dX10_arrive_26 : decode cX10_arrive 26 = .ok (.getfield 193, 3) := by decide +kernel
theorem dX10_arrive_29 : decode cX10_arrive 29 = .ok (.if_icmp .gt 7, 3) := by decide +kernel
theorem dX10_arrive_32 : decode cX10_arrive 32 = .ok (.iconst 1, 1) := by decide +kernel
theorem dX10_arrive_33 : decode cX10_arrive 33 = .ok (.goto 4, 3) := by decide +kernel
theorem dX10_arrive_36 : decode cX10_arrive 36 = .ok (.iconst 0, 1) := by decide +kernel
theorem dX10_arrive_37 : decode cX10_arrive 37 = .ok (.istore_n 2, 1) := by decide +kernel
theorem dX10_arrive_38 : decode cX10_arrive 38 = .ok (.iload_n 2, 1) := by decide +kernel
theorem dX10_arrive_39 : decode cX10_arrive 39 = .ok (.ifCond .eq 51, 3) := by decide +kernel
theorem dX10_arrive_42 : decode cX10_arrive 42 = .ok (.aload_n 0, 1) := by decide +kernel
theorem dX10_arrive_43 : decode cX10_arrive 43 = .ok (.aload_n 0, 1) := by decide +kernel
theorem dX10_arrive_44 : decode cX10_arrive 44 = .ok (.getfield 53, 3) := by decide +kernel
theorem dX10_arrive_47 : decode cX10_arrive 47 = .ok (.iload_n 1, 1) := by decide +kernel
theorem dX10_arrive_48 : decode cX10_arrive 48 = .ok (.iaload, 1) := by decide +kernel
theorem dX10_arrive_49 : decode cX10_arrive 49 = .ok (.invokevirtual 206, 3) := by decide +kernel
theorem dX10_arrive_52 : decode cX10_arrive 52 = .ok (.aload_n 0, 1) := by decide +kernel
theorem dX10_arrive_53 : decode cX10_arrive 53 = .ok (.getfield 56, 3) := by decide +kernel
theorem dX10_arrive_56 : decode cX10_arrive 56 = .ok (.iload_n 1, 1) := by decide +kernel
theorem dX10_arrive_57 : decode cX10_arrive 57 = .ok (.iaload, 1) := by decide +kernel
theorem dX10_arrive_58 : decode cX10_arrive 58 = .ok (.iadd, 1) := by decide +kernel
theorem dX10_arrive_59 : decode cX10_arrive 59 = .ok (.aload_n 0, 1) := by decide +kernel
theorem dX10_arrive_60 : decode cX10_arrive 60 = .ok (.getfield 43, 3) := by decide +kernel
theorem dX10_arrive_63 : decode cX10_arrive 63 = .ok (.aload_n 0, 1) := by decide +kernel
theorem dX10_arrive_64 : decode cX10_arrive 64 = .ok (.getfield 53, 3) := by decide +kernel
theorem dX10_arrive_67 : decode cX10_arrive 67 = .ok (.iload_n 1, 1) := by decide +kernel
theorem dX10_arrive_68 : decode cX10_arrive 68 = .ok (.iaload, 1) := by decide +kernel
theorem dX10_arrive_69 : decode cX10_arrive 69 = .ok (.iaload, 1) := by decide +kernel
theorem dX10_arrive_70 : decode cX10_arrive 70 = .ok (.if_icmp .gt 20, 3) := by decide +kernel
theorem dX10_arrive_73 : decode cX10_arrive 73 = .ok (.aload_n 0, 1) := by decide +kernel
theorem dX10_arrive_74 : decode cX10_arrive 74 = .ok (.getfield 62, 3) := by decide +kernel
theorem dX10_arrive_77 : decode cX10_arrive 77 = .ok (.iload_n 1, 1) := by decide +kernel
theorem dX10_arrive_78 : decode cX10_arrive 78 = .ok (.iconst 3, 1) := by decide +kernel
theorem dX10_arrive_79 : decode cX10_arrive 79 = .ok (.iastore, 1) := by decide +kernel
theorem dX10_arrive_80 : decode cX10_arrive 80 = .ok (.aload_n 0, 1) := by decide +kernel
theorem dX10_arrive_81 : decode cX10_arrive 81 = .ok (.getfield 83, 3) := by decide +kernel
theorem dX10_arrive_84 : decode cX10_arrive 84 = .ok (.iload_n 1, 1) := by decide +kernel
theorem dX10_arrive_85 : decode cX10_arrive 85 = .ok (.aload_n 0, 1) := by decide +kernel
theorem dX10_arrive_86 : decode cX10_arrive 86 = .ok (.getfield 193, 3) := by decide +kernel
theorem dX10_arrive_89 : decode cX10_arrive 89 = .ok (.iastore, 1) := by decide +kernel
theorem dX10_arrive_90 : decode cX10_arrive 90 = .ok (.iinc 1 1, 3) := by decide +kernel
theorem dX10_arrive_93 : decode cX10_arrive 93 = .ok (.goto (-91), 3) := by decide +kernel
theorem dX10_arrive_96 : decode cX10_arrive 96 = .ok (.return_, 1) := by decide +kernel
theorem dX10_workOn_0 : decode cX10_workOn 0 = .ok (.aload_n 0, 1) := by decide +kernel
theorem dX10_workOn_1 : decode cX10_workOn 1 = .ok (.getfield 108, 3) := by decide +kernel
theorem dX10_workOn_4 : decode cX10_workOn 4 = .ok (.iload_n 1, 1) := by decide +kernel
theorem dX10_workOn_5 : decode cX10_workOn 5 = .ok (.iaload, 1) := by decide +kernel
theorem dX10_workOn_6 : decode cX10_workOn 6 = .ok (.istore_n 2, 1) := by decide +kernel
theorem dX10_workOn_7 : decode cX10_workOn 7 = .ok (.aload_n 0, 1) := by decide +kernel
theorem dX10_workOn_8 : decode cX10_workOn 8 = .ok (.getfield 114, 3) := by decide +kernel
theorem dX10_workOn_11 : decode cX10_workOn 11 = .ok (.iload_n 1, 1) := by decide +kernel
theorem dX10_workOn_12 : decode cX10_workOn 12 = .ok (.iaload, 1) := by decide +kernel
theorem dX10_workOn_13 : decode cX10_workOn 13 = .ok (.istore_n 3, 1) := by decide +kernel
theorem dX10_workOn_14 : decode cX10_workOn 14 = .ok (.aload_n 0, 1) := by decide +kernel
theorem dX10_workOn_15 : decode cX10_workOn 15 = .ok (.getfield 96, 3) := by decide +kernel
theorem dX10_workOn_18 : decode cX10_workOn 18 = .ok (.iload_n 1, 1) := by decide +kernel
theorem dX10_workOn_19 : decode cX10_workOn 19 = .ok (.iaload, 1) := by decide +kernel
theorem dX10_workOn_20 : decode cX10_workOn 20 = .ok (.aload_n 0, 1) := by decide +kernel
theorem dX10_workOn_21 : decode cX10_workOn 21 = .ok (.getfield 129, 3) := by decide +kernel
theorem dX10_workOn_24 : decode cX10_workOn 24 = .ok (.iload_n 3, 1) := by decide +kernel
theorem dX10_workOn_25 : decode cX10_workOn 25 = .ok (.iaload, 1) := by decide +kernel
theorem dX10_workOn_26 : decode cX10_workOn 26 = .ok (.iadd, 1) := by decide +kernel
theorem dX10_workOn_27 : decode cX10_workOn 27 = .ok (.istore 4, 2) := by decide +kernel
theorem dX10_workOn_29 : decode cX10_workOn 29 = .ok (.aload_n 0, 1) := by decide +kernel
theorem dX10_workOn_30 : decode cX10_workOn 30 = .ok (.getfield 111, 3) := by decide +kernel
theorem dX10_workOn_33 : decode cX10_workOn 33 = .ok (.iload_n 1, 1) := by decide +kernel
theorem dX10_workOn_34 : decode cX10_workOn 34 = .ok (.dup2, 1) := by decide +kernel
theorem dX10_workOn_35 : decode cX10_workOn 35 = .ok (.iaload, 1) := by decide +kernel
theorem dX10_workOn_36 : decode cX10_workOn 36 = .ok (.iconst 1, 1) := by decide +kernel
theorem dX10_workOn_37 : decode cX10_workOn 37 = .ok (.isub, 1) := by decide +kernel
theorem dX10_workOn_38 : decode cX10_workOn 38 = .ok (.iastore, 1) := by decide +kernel
theorem dX10_workOn_39 : decode cX10_workOn 39 = .ok (.aload_n 0, 1) := by decide +kernel
theorem dX10_workOn_40 : decode cX10_workOn 40 = .ok (.getfield 59, 3) := by decide +kernel
theorem dX10_workOn_43 : decode cX10_workOn 43 = .ok (.iload_n 2, 1) := by decide +kernel
theorem dX10_workOn_44 : decode cX10_workOn 44 = .ok (.dup2, 1) := by decide +kernel
theorem dX10_workOn_45 : decode cX10_workOn 45 = .ok (.iaload, 1) := by decide +kernel
theorem dX10_workOn_46 : decode cX10_workOn 46 = .ok (.iload 4, 2) := by decide +kernel
theorem dX10_workOn_48 : decode cX10_workOn 48 = .ok (.iadd, 1) := by decide +kernel
theorem dX10_workOn_49 : decode cX10_workOn 49 = .ok (.iastore, 1) := by decide +kernel
theorem dX10_workOn_50 : decode cX10_workOn 50 = .ok (.aload_n 0, 1) := by decide +kernel
theorem dX10_workOn_51 : decode cX10_workOn 51 = .ok (.dup, 1) := by decide +kernel
theorem dX10_workOn_52 : decode cX10_workOn 52 = .ok (.getfield 258, 3) := by decide +kernel
theorem dX10_workOn_55 : decode cX10_workOn 55 = .ok (.iload 4, 2) := by decide +kernel
theorem dX10_workOn_57 : decode cX10_workOn 57 = .ok (.iadd, 1) := by decide +kernel
theorem dX10_workOn_58 : decode cX10_workOn 58 = .ok (.putfield 258, 3) := by decide +kernel
theorem dX10_workOn_61 : decode cX10_workOn 61 = .ok (.aload_n 0, 1) := by decide +kernel
theorem dX10_workOn_62 : decode cX10_workOn 62 = .ok (.getfield 117, 3) := by decide +kernel
theorem dX10_workOn_65 : decode cX10_workOn 65 = .ok (.iload_n 1, 1) := by decide +kernel
theorem dX10_workOn_66 : decode cX10_workOn 66 = .ok (.dup2, 1) := by decide +kernel
theorem dX10_workOn_67 : decode cX10_workOn 67 = .ok (.iaload, 1) := by decide +kernel
theorem dX10_workOn_68 : decode cX10_workOn 68 = .ok (.iconst 1, 1) := by decide +kernel
theorem dX10_workOn_69 : decode cX10_workOn 69 = .ok (.iadd, 1) := by decide +kernel
theorem dX10_workOn_70 : decode cX10_workOn 70 = .ok (.iastore, 1) := by decide +kernel
theorem dX10_workOn_71 : decode cX10_workOn 71 = .ok (.iconst 4, 1) := by decide +kernel
theorem dX10_workOn_72 : decode cX10_workOn 72 = .ok (.iload_n 3, 1) := by decide +kernel
theorem dX10_workOn_73 : decode cX10_workOn 73 = .ok (.imul, 1) := by decide +kernel
theorem dX10_workOn_74 : decode cX10_workOn 74 = .ok (.aload_n 0, 1) := by decide +kernel
theorem dX10_workOn_75 : decode cX10_workOn 75 = .ok (.getfield 37, 3) := by decide +kernel
theorem dX10_workOn_78 : decode cX10_workOn 78 = .ok (.iconst 4, 1) := by decide +kernel
theorem dX10_workOn_79 : decode cX10_workOn 79 = .ok (.aload_n 0, 1) := by decide +kernel
theorem dX10_workOn_80 : decode cX10_workOn 80 = .ok (.getfield 53, 3) := by decide +kernel
theorem dX10_workOn_83 : decode cX10_workOn 83 = .ok (.iload_n 2, 1) := by decide +kernel
theorem dX10_workOn_84 : decode cX10_workOn 84 = .ok (.iaload, 1) := by decide +kernel
theorem dX10_workOn_85 : decode cX10_workOn 85 = .ok (.imul, 1) := by decide +kernel
theorem dX10_workOn_86 : decode cX10_workOn 86 = .ok (.aload_n 0, 1) := by decide +kernel
theorem dX10_workOn_87 : decode cX10_workOn 87 = .ok (.getfield 65, 3) := by decide +kernel
theorem dX10_workOn_90 : decode cX10_workOn 90 = .ok (.iload_n 2, 1) := by decide +kernel
theorem dX10_workOn_91 : decode cX10_workOn 91 = .ok (.iaload, 1) := by decide +kernel
theorem dX10_workOn_92 : decode cX10_workOn 92 = .ok (.iadd, 1) := by decide +kernel
theorem dX10_workOn_93 : decode cX10_workOn 93 = .ok (.iaload, 1) := by decide +kernel
theorem dX10_workOn_94 : decode cX10_workOn 94 = .ok (.iadd, 1) := by decide +kernel
theorem dX10_workOn_95 : decode cX10_workOn 95 = .ok (.istore 5, 2) := by decide +kernel
theorem dX10_workOn_97 : decode cX10_workOn 97 = .ok (.aload_n 0, 1) := by decide +kernel
theorem dX10_workOn_98 : decode cX10_workOn 98 = .ok (.getfield 141, 3) := by decide +kernel
theorem dX10_workOn_101 : decode cX10_workOn 101 = .ok (.iload 5, 2) := by decide +kernel
theorem dX10_workOn_103 : decode cX10_workOn 103 = .ok (.dup2, 1) := by decide +kernel
theorem dX10_workOn_104 : decode cX10_workOn 104 = .ok (.iaload, 1) := by decide +kernel
theorem dX10_workOn_105 : decode cX10_workOn 105 = .ok (.iconst 1, 1) := by decide +kernel
theorem dX10_workOn_106 : decode cX10_workOn 106 = .ok (.iadd, 1) := by decide +kernel
theorem dX10_workOn_107 : decode cX10_workOn 107 = .ok (.iastore, 1) := by decide +kernel
theorem dX10_workOn_108 : decode cX10_workOn 108 = .ok (.aload_n 0, 1) := by decide +kernel
theorem dX10_workOn_109 : decode cX10_workOn 109 = .ok (.getfield 141, 3) := by decide +kernel
theorem dX10_workOn_112 : decode cX10_workOn 112 = .ok (.iload 5, 2) := by decide +kernel
theorem dX10_workOn_114 : decode cX10_workOn 114 = .ok (.iaload, 1) := by decide +kernel
theorem dX10_workOn_115 : decode cX10_workOn 115 = .ok (.bipush 8, 2) := by decide +kernel
theorem dX10_workOn_117 : decode cX10_workOn 117 = .ok (.if_icmp .ne 37, 3) := by decide +kernel
theorem dX10_workOn_120 : decode cX10_workOn 120 = .ok (.aload_n 0, 1) := by decide +kernel
theorem dX10_workOn_121 : decode cX10_workOn 121 = .ok (.getfield 138, 3) := by decide +kernel
theorem dX10_workOn_124 : decode cX10_workOn 124 = .ok (.iload 5, 2) := by decide +kernel
theorem dX10_workOn_126 : decode cX10_workOn 126 = .ok (.dup2, 1) := by decide +kernel
theorem dX10_workOn_127 : decode cX10_workOn 127 = .ok (.iaload, 1) := by decide +kernel
theorem dX10_workOn_128 : decode cX10_workOn 128 = .ok (.aload_n 0, 1) := by decide +kernel
theorem dX10_workOn_129 : decode cX10_workOn 129 = .ok (.getfield 138, 3) := by decide +kernel
theorem dX10_workOn_132 : decode cX10_workOn 132 = .ok (.iload 5, 2) := by decide +kernel
theorem dX10_workOn_134 : decode cX10_workOn 134 = .ok (.iaload, 1) := by decide +kernel
theorem dX10_workOn_135 : decode cX10_workOn 135 = .ok (.iconst 3, 1) := by decide +kernel
theorem dX10_workOn_136 : decode cX10_workOn 136 = .ok (.if_icmp .ge 7, 3) := by decide +kernel
theorem dX10_workOn_139 : decode cX10_workOn 139 = .ok (.iconst 1, 1) := by decide +kernel
theorem dX10_workOn_140 : decode cX10_workOn 140 = .ok (.goto 4, 3) := by decide +kernel
theorem dX10_workOn_143 : decode cX10_workOn 143 = .ok (.iconst 0, 1) := by decide +kernel
theorem dX10_workOn_144 : decode cX10_workOn 144 = .ok (.iadd, 1) := by decide +kernel
theorem dX10_workOn_145 : decode cX10_workOn 145 = .ok (.iastore, 1) := by decide +kernel
theorem dX10_workOn_146 : decode cX10_workOn 146 = .ok (.aload_n 0, 1) := by decide +kernel
theorem dX10_workOn_147 : decode cX10_workOn 147 = .ok (.getfield 141, 3) := by decide +kernel
theorem dX10_workOn_150 : decode cX10_workOn 150 = .ok (.iload 5, 2) := by decide +kernel
theorem dX10_workOn_152 : decode cX10_workOn 152 = .ok (.iconst 0, 1) := by decide +kernel
theorem dX10_workOn_153 : decode cX10_workOn 153 = .ok (.iastore, 1) := by decide +kernel
theorem dX10_workOn_154 : decode cX10_workOn 154 = .ok (.return_, 1) := by decide +kernel
theorem dX10_found_0 : decode cX10_found 0 = .ok (.aload_n 0, 1) := by decide +kernel
theorem dX10_found_1 : decode cX10_found 1 = .ok (.getfield 65, 3) := by decide +kernel
theorem dX10_found_4 : decode cX10_found 4 = .ok (.iload_n 1, 1) := by decide +kernel
theorem dX10_found_5 : decode cX10_found 5 = .ok (.iaload, 1) := by decide +kernel
theorem dX10_found_6 : decode cX10_found 6 = .ok (.istore_n 2, 1) := by decide +kernel
theorem dX10_found_7 : decode cX10_found 7 = .ok (.iload_n 2, 1) := by decide +kernel
theorem dX10_found_8 : decode cX10_found 8 = .ok (.aload_n 0, 1) := by decide +kernel
theorem dX10_found_9 : decode cX10_found 9 = .ok (.getfield 31, 3) := by decide +kernel
theorem dX10_found_12 : decode cX10_found 12 = .ok (.aload_n 0, 1) := by decide +kernel
theorem dX10_found_13 : decode cX10_found 13 = .ok (.getfield 53, 3) := by decide +kernel
theorem dX10_found_16 : decode cX10_found 16 = .ok (.iload_n 1, 1) := by decide +kernel
theorem dX10_found_17 : decode cX10_found 17 = .ok (.iaload, 1) := by decide +kernel
theorem dX10_found_18 : decode cX10_found 18 = .ok (.iaload, 1) := by decide +kernel
theorem dX10_found_19 : decode cX10_found 19 = .ok (.iconst 1, 1) := by decide +kernel
theorem dX10_found_20 : decode cX10_found 20 = .ok (.isub, 1) := by decide +kernel
theorem dX10_found_21 : decode cX10_found 21 = .ok (.if_icmp .ne 7, 3) := by decide +kernel
theorem dX10_found_24 : decode cX10_found 24 = .ok (.iconst 1, 1) := by decide +kernel
theorem dX10_found_25 : decode cX10_found 25 = .ok (.goto 4, 3) := by decide +kernel
theorem dX10_found_28 : decode cX10_found 28 = .ok (.iconst 0, 1) := by decide +kernel
theorem dX10_found_29 : decode cX10_found 29 = .ok (.istore_n 3, 1) := by decide +kernel
theorem dX10_found_30 : decode cX10_found 30 = .ok (.iconst 0, 1) := by decide +kernel
theorem dX10_found_31 : decode cX10_found 31 = .ok (.istore 4, 2) := by decide +kernel
theorem dX10_found_33 : decode cX10_found 33 = .ok (.iload 4, 2) := by decide +kernel
theorem dX10_found_35 : decode cX10_found 35 = .ok (.iload_n 2, 1) := by decide +kernel
theorem dX10_found_36 : decode cX10_found 36 = .ok (.if_icmp .gt 39, 3) := by decide +kernel
theorem dX10_found_39 : decode cX10_found 39 = .ok (.aload_n 0, 1) := by decide +kernel
theorem dX10_found_40 : decode cX10_found 40 = .ok (.getfield 77, 3) := by decide +kernel
theorem dX10_found_43 : decode cX10_found 43 = .ok (.iload_n 1, 1) := by decide +kernel
theorem dX10_found_44 : decode cX10_found 44 = .ok (.iaload, 1) := by decide +kernel
theorem dX10_found_45 : decode cX10_found 45 = .ok (.iload 4, 2) := by decide +kernel
theorem dX10_found_47 : decode cX10_found 47 = .ok (.ishr, 1) := by decide +kernel
theorem dX10_found_48 : decode cX10_found 48 = .ok (.iconst 1, 1) := by decide +kernel
theorem dX10_found_49 : decode cX10_found 49 = .ok (.iand, 1) := by decide +kernel
theorem dX10_found_50 : decode cX10_found 50 = .ok (.iconst 1, 1) := by decide +kernel
theorem dX10_found_51 : decode cX10_found 51 = .ok (.if_icmp .ne 18, 3) := by decide +kernel
theorem dX10_found_54 : decode cX10_found 54 = .ok (.iload_n 3, 1) := by decide +kernel
theorem dX10_found_55 : decode cX10_found 55 = .ok (.ifCond .ne 11, 3) := by decide +kernel
theorem dX10_found_58 : decode cX10_found 58 = .ok (.iload 4, 2) := by decide +kernel
theorem dX10_found_60 : decode cX10_found 60 = .ok (.iconst 2, 1) := by decide +kernel
theorem dX10_found_61 : decode cX10_found 61 = .ok (.iadd, 1) := by decide +kernel
theorem dX10_found_62 : decode cX10_found 62 = .ok (.iload_n 2, 1) := by decide +kernel
theorem dX10_found_63 : decode cX10_found 63 = .ok (.if_icmp .gt 6, 3) := by decide +kernel
theorem dX10_found_66 : decode cX10_found 66 = .ok (.iload 4, 2) := by decide +kernel
theorem dX10_found_68 : decode cX10_found 68 = .ok (.ireturn, 1) := by decide +kernel
theorem dX10_found_69 : decode cX10_found 69 = .ok (.iinc 4 1, 3) := by decide +kernel
theorem dX10_found_72 : decode cX10_found 72 = .ok (.goto (-39), 3) := by decide +kernel
theorem dX10_found_75 : decode cX10_found 75 = .ok (.iconst (-1), 1) := by decide +kernel
theorem dX10_found_76 : decode cX10_found 76 = .ok (.ireturn, 1) := by decide +kernel
theorem dX10_finish_0 : decode cX10_finish 0 = .ok (.aload_n 0, 1) := by decide +kernel
theorem dX10_finish_1 : decode cX10_finish 1 = .ok (.getfield 108, 3) := by decide +kernel
theorem dX10_finish_4 : decode cX10_finish 4 = .ok (.iload_n 1, 1) := by decide +kernel
theorem dX10_finish_5 : decode cX10_finish 5 = .ok (.iaload, 1) := by decide +kernel
theorem dX10_finish_6 : decode cX10_finish 6 = .ok (.istore_n 2, 1) := by decide +kernel
theorem dX10_finish_7 : decode cX10_finish 7 = .ok (.aload_n 0, 1) := by decide +kernel
theorem dX10_finish_8 : decode cX10_finish 8 = .ok (.getfield 53, 3) := by decide +kernel
theorem dX10_finish_11 : decode cX10_finish 11 = .ok (.iload_n 2, 1) := by decide +kernel
theorem dX10_finish_12 : decode cX10_finish 12 = .ok (.iaload, 1) := by decide +kernel
theorem dX10_finish_13 : decode cX10_finish 13 = .ok (.istore_n 3, 1) := by decide +kernel
theorem dX10_finish_14 : decode cX10_finish 14 = .ok (.aload_n 0, 1) := by decide +kernel
theorem dX10_finish_15 : decode cX10_finish 15 = .ok (.getfield 65, 3) := by decide +kernel
theorem dX10_finish_18 : decode cX10_finish 18 = .ok (.iload_n 2, 1) := by decide +kernel
theorem dX10_finish_19 : decode cX10_finish 19 = .ok (.iaload, 1) := by decide +kernel
theorem dX10_finish_20 : decode cX10_finish 20 = .ok (.istore 4, 2) := by decide +kernel
theorem dX10_finish_22 : decode cX10_finish 22 = .ok (.aload_n 0, 1) := by decide +kernel
theorem dX10_finish_23 : decode cX10_finish 23 = .ok (.getfield 80, 3) := by decide +kernel
theorem dX10_finish_26 : decode cX10_finish 26 = .ok (.iload_n 2, 1) := by decide +kernel
theorem dX10_finish_27 : decode cX10_finish 27 = .ok (.baload, 1) := by decide +kernel
theorem dX10_finish_28 : decode cX10_finish 28 = .ok (.ifCond .ne 76, 3) := by decide +kernel
theorem dX10_finish_31 : decode cX10_finish 31 = .ok (.aload_n 0, 1) := by decide +kernel
theorem dX10_finish_32 : decode cX10_finish 32 = .ok (.getfield 80, 3) := by decide +kernel
theorem dX10_finish_35 : decode cX10_finish 35 = .ok (.iload_n 2, 1) := by decide +kernel
theorem dX10_finish_36 : decode cX10_finish 36 = .ok (.iconst 1, 1) := by decide +kernel
theorem dX10_finish_37 : decode cX10_finish 37 = .ok (.bastore, 1) := by decide +kernel
theorem dX10_finish_38 : decode cX10_finish 38 = .ok (.bipush 7, 2) := by decide +kernel
theorem dX10_finish_40 : decode cX10_finish 40 = .ok (.iload_n 2, 1) := by decide +kernel
theorem dX10_finish_41 : decode cX10_finish 41 = .ok (.imul, 1) := by decide +kernel
theorem dX10_finish_42 : decode cX10_finish 42 = .ok (.iconst 5, 1) := by decide +kernel
theorem dX10_finish_43 : decode cX10_finish 43 = .ok (.iload 4, 2) := by decide +kernel
theorem dX10_finish_45 : decode cX10_finish 45 = .ok (.imul, 1) := by decide +kernel
theorem dX10_finish_46 : decode cX10_finish 46 = .ok (.iadd, 1) := by decide +kernel
theorem dX10_finish_47 : decode cX10_finish 47 = .ok (.iconst 3, 1) := by decide +kernel
theorem dX10_finish_48 : decode cX10_finish 48 = .ok (.aload_n 0, 1) := by decide +kernel
theorem dX10_finish_49 : decode cX10_finish 49 = .ok (.getfield 193, 3) := by decide +kernel
theorem dX10_finish_52 : decode cX10_finish 52 = .ok (.imul, 1) := by decide +kernel
theorem dX10_finish_53 : decode cX10_finish 53 = .ok (.iadd, 1) := by decide +kernel
theorem dX10_finish_54 : decode cX10_finish 54 = .ok (.bipush 11, 2) := by decide +kernel
theorem dX10_finish_56 : decode cX10_finish 56 = .ok (.irem, 1) := by decide +kernel
theorem dX10_finish_57 : decode cX10_finish 57 = .ok (.iconst 4, 1) := by decide +kernel
theorem dX10_finish_58 : decode cX10_finish 58 = .ok (.aload_n 0, 1) := by decide +kernel
theorem dX10_finish_59 : decode cX10_finish 59 = .ok (.getfield 117, 3) := by decide +kernel
theorem dX10_finish_62 : decode cX10_finish 62 = .ok (.iload_n 1, 1) := by decide +kernel
theorem dX10_finish_63 : decode cX10_finish 63 = .ok (.iaload, 1) := by decide +kernel
theorem dX10_finish_64 : decode cX10_finish 64 = .ok (.imul, 1) := by decide +kernel
theorem dX10_finish_65 : decode cX10_finish 65 = .ok (.aload_n 0, 1) := by decide +kernel
theorem dX10_finish_66 : decode cX10_finish 66 = .ok (.getfield 99, 3) := by decide +kernel
theorem dX10_finish_69 : decode cX10_finish 69 = .ok (.iload_n 1, 1) := by decide +kernel
theorem dX10_finish_70 : decode cX10_finish 70 = .ok (.iaload, 1) := by decide +kernel
theorem dX10_finish_71 : decode cX10_finish 71 = .ok (.idiv, 1) := by decide +kernel
theorem dX10_finish_72 : decode cX10_finish 72 = .ok (.if_icmp .ge 7, 3) := by decide +kernel
theorem dX10_finish_75 : decode cX10_finish 75 = .ok (.iconst 1, 1) := by decide +kernel
theorem dX10_finish_76 : decode cX10_finish 76 = .ok (.goto 4, 3) := by decide +kernel
theorem dX10_finish_79 : decode cX10_finish 79 = .ok (.iconst 0, 1) := by decide +kernel
theorem dX10_finish_80 : decode cX10_finish 80 = .ok (.istore 5, 2) := by decide +kernel
theorem dX10_finish_82 : decode cX10_finish 82 = .ok (.aload_n 0, 1) := by decide +kernel
theorem dX10_finish_83 : decode cX10_finish 83 = .ok (.getfield 77, 3) := by decide +kernel
theorem dX10_finish_86 : decode cX10_finish 86 = .ok (.iload_n 2, 1) := by decide +kernel
theorem dX10_finish_87 : decode cX10_finish 87 = .ok (.dup2, 1) := by decide +kernel
theorem dX10_finish_88 : decode cX10_finish 88 = .ok (.iaload, 1) := by decide +kernel
theorem dX10_finish_89 : decode cX10_finish 89 = .ok (.iload 5, 2) := by decide +kernel
theorem dX10_finish_91 : decode cX10_finish 91 = .ok (.ifCond .eq 10, 3) := by decide +kernel
theorem dX10_finish_94 : decode cX10_finish 94 = .ok (.iconst 1, 1) := by decide +kernel
theorem dX10_finish_95 : decode cX10_finish 95 = .ok (.iload 4, 2) := by decide +kernel
theorem dX10_finish_97 : decode cX10_finish 97 = .ok (.ishl, 1) := by decide +kernel
theorem dX10_finish_98 : decode cX10_finish 98 = .ok (.goto 4, 3) := by decide +kernel
theorem dX10_finish_101 : decode cX10_finish 101 = .ok (.iconst 0, 1) := by decide +kernel
theorem dX10_finish_102 : decode cX10_finish 102 = .ok (.ior, 1) := by decide +kernel
theorem dX10_finish_103 : decode cX10_finish 103 = .ok (.iastore, 1) := by decide +kernel
theorem dX10_finish_104 : decode cX10_finish 104 = .ok (.aload_n 0, 1) := by decide +kernel
theorem dX10_finish_105 : decode cX10_finish 105 = .ok (.iload_n 2, 1) := by decide +kernel
theorem dX10_finish_106 : decode cX10_finish 106 = .ok (.invokevirtual 261, 3) := by decide +kernel
theorem dX10_finish_109 : decode cX10_finish 109 = .ok (.istore 5, 2) := by decide +kernel
theorem dX10_finish_111 : decode cX10_finish 111 = .ok (.iload 5, 2) := by decide +kernel
theorem dX10_finish_113 : decode cX10_finish 113 = .ok (.iconst (-1), 1) := by decide +kernel
theorem dX10_finish_114 : decode cX10_finish 114 = .ok (.if_icmp .eq 20, 3) := by decide +kernel
theorem dX10_finish_117 : decode cX10_finish 117 = .ok (.aload_n 0, 1) := by decide +kernel
theorem dX10_finish_118 : decode cX10_finish 118 = .ok (.getfield 74, 3) := by decide +kernel
theorem dX10_finish_121 : decode cX10_finish 121 = .ok (.iload_n 2, 1) := by decide +kernel
theorem dX10_finish_122 : decode cX10_finish 122 = .ok (.baload, 1) := by decide +kernel
theorem dX10_finish_123 : decode cX10_finish 123 = .ok (.ifCond .eq 11, 3) := by decide +kernel
theorem dX10_finish_126 : decode cX10_finish 126 = .ok (.aload_n 0, 1) := by decide +kernel
theorem dX10_finish_127 : decode cX10_finish 127 = .ok (.iload_n 2, 1) := by decide +kernel
theorem dX10_finish_128 : decode cX10_finish 128 = .ok (.invokevirtual 243, 3) := by decide +kernel
theorem dX10_finish_131 : decode cX10_finish 131 = .ok (.goto 174, 3) := by decide +kernel
theorem dX10_finish_134 : decode cX10_finish 134 = .ok (.iload 5, 2) := by decide +kernel
theorem dX10_finish_136 : decode cX10_finish 136 = .ok (.iconst (-1), 1) := by decide +kernel
theorem dX10_finish_137 : decode cX10_finish 137 = .ok (.if_icmp .ne 62, 3) := by decide +kernel
theorem dX10_finish_140 : decode cX10_finish 140 = .ok (.iload 4, 2) := by decide +kernel
theorem dX10_finish_142 : decode cX10_finish 142 = .ok (.aload_n 0, 1) := by decide +kernel
theorem dX10_finish_143 : decode cX10_finish 143 = .ok (.getfield 31, 3) := by decide +kernel
theorem dX10_finish_146 : decode cX10_finish 146 = .ok (.iload_n 3, 1) := by decide +kernel
theorem dX10_finish_147 : decode cX10_finish 147 = .ok (.iaload, 1) := by decide +kernel
theorem dX10_finish_148 : decode cX10_finish 148 = .ok (.iconst 1, 1) := by decide +kernel
theorem dX10_finish_149 : decode cX10_finish 149 = .ok (.isub, 1) := by decide +kernel
theorem dX10_finish_150 : decode cX10_finish 150 = .ok (.if_icmp .ne 49, 3) := by decide +kernel
theorem dX10_finish_153 : decode cX10_finish 153 = .ok (.aload_n 0, 1) := by decide +kernel
theorem dX10_finish_154 : decode cX10_finish 154 = .ok (.iload_n 3, 1) := by decide +kernel
theorem dX10_finish_155 : decode cX10_finish 155 = .ok (.invokevirtual 206, 3) := by decide +kernel
theorem dX10_finish_158 : decode cX10_finish 158 = .ok (.aload_n 0, 1) := by decide +kernel
theorem dX10_finish_159 : decode cX10_finish 159 = .ok (.getfield 56, 3) := by decide +kernel
theorem dX10_finish_162 : decode cX10_finish 162 = .ok (.iload_n 2, 1) := by decide +kernel
theorem dX10_finish_163 : decode cX10_finish 163 = .ok (.iaload, 1) := by decide +kernel
theorem dX10_finish_164 : decode cX10_finish 164 = .ok (.iadd, 1) := by decide +kernel
theorem dX10_finish_165 : decode cX10_finish 165 = .ok (.aload_n 0, 1) := by decide +kernel
theorem dX10_finish_166 : decode cX10_finish 166 = .ok (.getfield 43, 3) := by decide +kernel
theorem dX10_finish_169 : decode cX10_finish 169 = .ok (.iload_n 3, 1) := by decide +kernel
theorem dX10_finish_170 : decode cX10_finish 170 = .ok (.iaload, 1) := by decide +kernel
theorem dX10_finish_171 : decode cX10_finish 171 = .ok (.if_icmp .gt 134, 3) := by decide +kernel
theorem dX10_finish_174 : decode cX10_finish 174 = .ok (.aload_n 0, 1) := by decide +kernel
theorem dX10_finish_175 : decode cX10_finish 175 = .ok (.getfield 65, 3) := by decide +kernel
theorem dX10_finish_178 : decode cX10_finish 178 = .ok (.iload_n 2, 1) := by decide +kernel
theorem dX10_finish_179 : decode cX10_finish 179 = .ok (.dup2, 1) := by decide +kernel
theorem dX10_finish_180 : decode cX10_finish 180 = .ok (.iaload, 1) := by decide +kernel
theorem dX10_finish_181 : decode cX10_finish 181 = .ok (.iconst 1, 1) := by decide +kernel
theorem dX10_finish_182 : decode cX10_finish 182 = .ok (.iadd, 1) := by decide +kernel
theorem dX10_finish_183 : decode cX10_finish 183 = .ok (.iastore, 1) := by decide +kernel
theorem dX10_finish_184 : decode cX10_finish 184 = .ok (.aload_n 0, 1) := by decide +kernel
theorem dX10_finish_185 : decode cX10_finish 185 = .ok (.getfield 62, 3) := by decide +kernel
theorem dX10_finish_188 : decode cX10_finish 188 = .ok (.iload_n 2, 1) := by decide +kernel
theorem dX10_finish_189 : decode cX10_finish 189 = .ok (.iconst 3, 1) := by decide +kernel
theorem dX10_finish_190 : decode cX10_finish 190 = .ok (.iastore, 1) := by decide +kernel
theorem dX10_finish_191 : decode cX10_finish 191 = .ok (.aload_n 0, 1) := by decide +kernel
theorem dX10_finish_192 : decode cX10_finish 192 = .ok (.iload_n 1, 1) := by decide +kernel
theorem dX10_finish_193 : decode cX10_finish 193 = .ok (.invokevirtual 239, 3) := by decide +kernel
theorem dX10_finish_196 : decode cX10_finish 196 = .ok (.goto 109, 3) := by decide +kernel
theorem dX10_finish_199 : decode cX10_finish 199 = .ok (.iload 5, 2) := by decide +kernel
theorem dX10_finish_201 : decode cX10_finish 201 = .ok (.iconst (-1), 1) := by decide +kernel
theorem dX10_finish_202 : decode cX10_finish 202 = .ok (.if_icmp .ne 10, 3) := by decide +kernel
theorem dX10_finish_205 : decode cX10_finish 205 = .ok (.iload 4, 2) := by decide +kernel
theorem dX10_finish_207 : decode cX10_finish 207 = .ok (.iconst 1, 1) := by decide +kernel
theorem dX10_finish_208 : decode cX10_finish 208 = .ok (.iadd, 1) := by decide +kernel
theorem dX10_finish_209 : decode cX10_finish 209 = .ok (.goto 5, 3) := by decide +kernel
theorem dX10_finish_212 : decode cX10_finish 212 = .ok (.iload 5, 2) := by decide +kernel
theorem dX10_finish_214 : decode cX10_finish 214 = .ok (.istore 6, 2) := by decide +kernel
theorem dX10_finish_216 : decode cX10_finish 216 = .ok (.aload_n 0, 1) := by decide +kernel
theorem dX10_finish_217 : decode cX10_finish 217 = .ok (.aload_n 0, 1) := by decide +kernel
theorem dX10_finish_218 : decode cX10_finish 218 = .ok (.getfield 34, 3) := by decide +kernel
theorem dX10_finish_221 : decode cX10_finish 221 = .ok (.iconst 4, 1) := by decide +kernel
theorem dX10_finish_222 : decode cX10_finish 222 = .ok (.iload_n 3, 1) := by decide +kernel
theorem dX10_finish_223 : decode cX10_finish 223 = .ok (.imul, 1) := by decide +kernel
theorem dX10_finish_224 : decode cX10_finish 224 = .ok (.iload 6, 2) := by decide +kernel
theorem dX10_finish_226 : decode cX10_finish 226 = .ok (.iadd, 1) := by decide +kernel
theorem dX10_finish_227 : decode cX10_finish 227 = .ok (.iaload, 1) := by decide +kernel
theorem dX10_finish_228 : decode cX10_finish 228 = .ok (.invokevirtual 222, 3) := by decide +kernel
theorem dX10_finish_231 : decode cX10_finish 231 = .ok (.ifCond .eq 74, 3) := by decide +kernel
theorem dX10_finish_234 : decode cX10_finish 234 = .ok (.aload_n 0, 1) := by decide +kernel
theorem dX10_finish_235 : decode cX10_finish 235 = .ok (.getfield 65, 3) := by decide +kernel
theorem dX10_finish_238 : decode cX10_finish 238 = .ok (.iload_n 2, 1) := by decide +kernel
theorem dX10_finish_239 : decode cX10_finish 239 = .ok (.iload 6, 2) := by decide +kernel
theorem dX10_finish_241 : decode cX10_finish 241 = .ok (.iastore, 1) := by decide +kernel
theorem dX10_finish_242 : decode cX10_finish 242 = .ok (.aload_n 0, 1) := by decide +kernel
theorem dX10_finish_243 : decode cX10_finish 243 = .ok (.getfield 62, 3) := by decide +kernel
theorem dX10_finish_246 : decode cX10_finish 246 = .ok (.iload_n 2, 1) := by decide +kernel
theorem dX10_finish_247 : decode cX10_finish 247 = .ok (.iconst 1, 1) := by decide +kernel
theorem dX10_finish_248 : decode cX10_finish 248 = .ok (.iastore, 1) := by decide +kernel
theorem dX10_finish_249 : decode cX10_finish 249 = .ok (.aload_n 0, 1) := by decide +kernel
theorem dX10_finish_250 : decode cX10_finish 250 = .ok (.getfield 74, 3) := by decide +kernel
theorem dX10_finish_253 : decode cX10_finish 253 = .ok (.iload_n 2, 1) := by decide +kernel
theorem dX10_finish_254 : decode cX10_finish 254 = .ok (.aload_n 0, 1) := by decide +kernel
theorem dX10_finish_255 : decode cX10_finish 255 = .ok (.getfield 74, 3) := by decide +kernel
theorem dX10_finish_258 : decode cX10_finish 258 = .ok (.iload_n 2, 1) := by decide +kernel
theorem dX10_finish_259 : decode cX10_finish 259 = .ok (.baload, 1) := by decide +kernel
theorem dX10_finish_260 : decode cX10_finish 260 = .ok (.ifCond .ne 9, 3) := by decide +kernel
theorem dX10_finish_263 : decode cX10_finish 263 = .ok (.iload 5, 2) := by decide +kernel
theorem dX10_finish_265 : decode cX10_finish 265 = .ok (.iconst (-1), 1) := by decide +kernel
theorem dX10_finish_266 : decode cX10_finish 266 = .ok (.if_icmp .eq 7, 3) := by decide +kernel
theorem dX10_finish_269 : decode cX10_finish 269 = .ok (.iconst 1, 1) := by decide +kernel
theorem dX10_finish_270 : decode cX10_finish 270 = .ok (.goto 4, 3) := by decide +kernel
theorem dX10_finish_273 : decode cX10_finish 273 = .ok (.iconst 0, 1) := by decide +kernel
theorem dX10_finish_274 : decode cX10_finish 274 = .ok (.bastore, 1) := by decide +kernel
theorem dX10_finish_275 : decode cX10_finish 275 = .ok (.aload_n 0, 1) := by decide +kernel
theorem dX10_finish_276 : decode cX10_finish 276 = .ok (.getfield 77, 3) := by decide +kernel
theorem dX10_finish_279 : decode cX10_finish 279 = .ok (.iload_n 2, 1) := by decide +kernel
theorem dX10_finish_280 : decode cX10_finish 280 = .ok (.dup2, 1) := by decide +kernel
theorem dX10_finish_281 : decode cX10_finish 281 = .ok (.iaload, 1) := by decide +kernel
theorem dX10_finish_282 : decode cX10_finish 282 = .ok (.iload 5, 2) := by decide +kernel
theorem dX10_finish_284 : decode cX10_finish 284 = .ok (.iconst (-1), 1) := by decide +kernel
theorem dX10_finish_285 : decode cX10_finish 285 = .ok (.if_icmp .ne 7, 3) := by decide +kernel
theorem dX10_finish_288 : decode cX10_finish 288 = .ok (.iconst (-1), 1) := by decide +kernel
theorem dX10_finish_289 : decode cX10_finish 289 = .ok (.goto 9, 3) := by decide +kernel
theorem dX10_finish_292 : decode cX10_finish 292 = .ok (.iconst 1, 1) := by decide +kernel
theorem dX10_finish_293 : decode cX10_finish 293 = .ok (.iload 5, 2) := by decide +kernel
theorem dX10_finish_295 : decode cX10_finish 295 = .ok (.ishl, 1) := by decide +kernel
theorem dX10_finish_296 : decode cX10_finish 296 = .ok (.iconst 1, 1) := by decide +kernel
theorem dX10_finish_297 : decode cX10_finish 297 = .ok (.isub, 1) := by decide +kernel
theorem dX10_finish_298 : decode cX10_finish 298 = .ok (.iand, 1) := by decide +kernel
theorem dX10_finish_299 : decode cX10_finish 299 = .ok (.iastore, 1) := by decide +kernel
theorem dX10_finish_300 : decode cX10_finish 300 = .ok (.aload_n 0, 1) := by decide +kernel
theorem dX10_finish_301 : decode cX10_finish 301 = .ok (.iload_n 1, 1) := by decide +kernel
theorem dX10_finish_302 : decode cX10_finish 302 = .ok (.invokevirtual 239, 3) := by decide +kernel
theorem dX10_finish_305 : decode cX10_finish 305 = .ok (.return_, 1) := by decide +kernel
theorem dX10_work_0 : decode cX10_work 0 = .ok (.iconst 0, 1) := by decide +kernel
theorem dX10_work_1 : decode cX10_work 1 = .ok (.istore_n 1, 1) := by decide +kernel
theorem dX10_work_2 : decode cX10_work 2 = .ok (.iload_n 1, 1) := by decide +kernel
theorem dX10_work_3 : decode cX10_work 3 = .ok (.aload_n 0, 1) := by decide +kernel
theorem dX10_work_4 : decode cX10_work 4 = .ok (.getfield 183, 3) := by decide +kernel
theorem dX10_work_7 : decode cX10_work 7 = .ok (.if_icmp .ge 60, 3) := by decide +kernel
theorem dX10_work_10 : decode cX10_work 10 = .ok (.aload_n 0, 1) := by decide +kernel
theorem dX10_work_11 : decode cX10_work 11 = .ok (.getfield 108, 3) := by decide +kernel
theorem dX10_work_14 : decode cX10_work 14 = .ok (.iload_n 1, 1) := by decide +kernel
theorem dX10_work_15 : decode cX10_work 15 = .ok (.iaload, 1) := by decide +kernel
theorem dX10_work_16 : decode cX10_work 16 = .ok (.iconst (-1), 1) := by decide +kernel
theorem dX10_work_17 : decode cX10_work 17 = .ok (.if_icmp .eq 44, 3) := by decide +kernel
theorem dX10_work_20 : decode cX10_work 20 = .ok (.aload_n 0, 1) := by decide +kernel
theorem dX10_work_21 : decode cX10_work 21 = .ok (.getfield 111, 3) := by decide +kernel
theorem dX10_work_24 : decode cX10_work 24 = .ok (.iload_n 1, 1) := by decide +kernel
theorem dX10_work_25 : decode cX10_work 25 = .ok (.iaload, 1) := by decide +kernel
theorem dX10_work_26 : decode cX10_work 26 = .ok (.ifCond .le 21, 3) := by decide +kernel
theorem dX10_work_29 : decode cX10_work 29 = .ok (.aload_n 0, 1) := by decide +kernel
theorem dX10_work_30 : decode cX10_work 30 = .ok (.aload_n 0, 1) := by decide +kernel
theorem dX10_work_31 : decode cX10_work 31 = .ok (.getfield 114, 3) := by decide +kernel
theorem dX10_work_34 : decode cX10_work 34 = .ok (.iload_n 1, 1) := by decide +kernel
theorem dX10_work_35 : decode cX10_work 35 = .ok (.iaload, 1) := by decide +kernel
theorem dX10_work_36 : decode cX10_work 36 = .ok (.invokevirtual 264, 3) := by decide +kernel
theorem dX10_work_39 : decode cX10_work 39 = .ok (.ifCond .eq 8, 3) := by decide +kernel
theorem dX10_work_42 : decode cX10_work 42 = .ok (.aload_n 0, 1) := by decide +kernel
theorem dX10_work_43 : decode cX10_work 43 = .ok (.iload_n 1, 1) := by decide +kernel
theorem dX10_work_44 : decode cX10_work 44 = .ok (.invokevirtual 267, 3) := by decide +kernel
theorem dX10_work_47 : decode cX10_work 47 = .ok (.aload_n 0, 1) := by decide +kernel
theorem dX10_work_48 : decode cX10_work 48 = .ok (.getfield 111, 3) := by decide +kernel
theorem dX10_work_51 : decode cX10_work 51 = .ok (.iload_n 1, 1) := by decide +kernel
theorem dX10_work_52 : decode cX10_work 52 = .ok (.iaload, 1) := by decide +kernel
theorem dX10_work_53 : decode cX10_work 53 = .ok (.ifCond .ne 8, 3) := by decide +kernel
theorem dX10_work_56 : decode cX10_work 56 = .ok (.aload_n 0, 1) := by decide +kernel
theorem dX10_work_57 : decode cX10_work 57 = .ok (.iload_n 1, 1) := by decide +kernel
theorem dX10_work_58 : decode cX10_work 58 = .ok (.invokevirtual 270, 3) := by decide +kernel
theorem dX10_work_61 : decode cX10_work 61 = .ok (.iinc 1 1, 3) := by decide +kernel
theorem dX10_work_64 : decode cX10_work 64 = .ok (.goto (-62), 3) := by decide +kernel
theorem dX10_work_67 : decode cX10_work 67 = .ok (.return_, 1) := by decide +kernel
theorem dX10_repair_0 : decode cX10_repair 0 = .ok (.iconst 0, 1) := by decide +kernel
theorem dX10_repair_1 : decode cX10_repair 1 = .ok (.istore_n 1, 1) := by decide +kernel
theorem dX10_repair_2 : decode cX10_repair 2 = .ok (.iload_n 1, 1) := by decide +kernel
theorem dX10_repair_3 : decode cX10_repair 3 = .ok (.aload_n 0, 1) := by decide +kernel
theorem dX10_repair_4 : decode cX10_repair 4 = .ok (.getfield 183, 3) := by decide +kernel
theorem dX10_repair_7 : decode cX10_repair 7 = .ok (.if_icmp .ge 116, 3) := by decide +kernel
theorem dX10_repair_10 : decode cX10_repair 10 = .ok (.aload_n 0, 1) := by decide +kernel
theorem dX10_repair_11 : decode cX10_repair 11 = .ok (.getfield 105, 3) := by decide +kernel
theorem dX10_repair_14 : decode cX10_repair 14 = .ok (.iload_n 1, 1) := by decide +kernel
theorem dX10_repair_15 : decode cX10_repair 15 = .ok (.iaload, 1) := by decide +kernel
theorem dX10_repair_16 : decode cX10_repair 16 = .ok (.istore_n 2, 1) := by decide +kernel
theorem dX10_repair_17 : decode cX10_repair 17 = .ok (.aload_n 0, 1) := by decide +kernel
theorem dX10_repair_18 : decode cX10_repair 18 = .ok (.getfield 123, 3) := by decide +kernel
theorem dX10_repair_21 : decode cX10_repair 21 = .ok (.iload_n 1, 1) := by decide +kernel
theorem dX10_repair_22 : decode cX10_repair 22 = .ok (.iaload, 1) := by decide +kernel
theorem dX10_repair_23 : decode cX10_repair 23 = .ok (.iconst 2, 1) := by decide +kernel
theorem dX10_repair_24 : decode cX10_repair 24 = .ok (.if_icmp .ne 39, 3) := by decide +kernel
theorem dX10_repair_27 : decode cX10_repair 27 = .ok (.aload_n 0, 1) := by decide +kernel
theorem dX10_repair_28 : decode cX10_repair 28 = .ok (.getfield 126, 3) := by decide +kernel
theorem dX10_repair_31 : decode cX10_repair 31 = .ok (.iload_n 1, 1) := by decide +kernel
theorem dX10_repair_32 : decode cX10_repair 32 = .ok (.dup2, 1) := by decide +kernel
theorem dX10_repair_33 : decode cX10_repair 33 = .ok (.iaload, 1) := by decide +kernel
theorem dX10_repair_34 : decode cX10_repair 34 = .ok (.iconst 1, 1) := by decide +kernel
theorem dX10_repair_35 : decode cX10_repair 35 = .ok (.isub, 1) := by decide +kernel
theorem dX10_repair_36 : decode cX10_repair 36 = .ok (.iastore, 1) := by decide +kernel
theorem dX10_repair_37 : decode cX10_repair 37 = .ok (.aload_n 0, 1) := by decide +kernel
theorem dX10_repair_38 : decode cX10_repair 38 = .ok (.getfield 126, 3) := by decide +kernel
theorem dX10_repair_41 : decode cX10_repair 41 = .ok (.iload_n 1, 1) := by decide +kernel
theorem dX10_repair_42 : decode cX10_repair 42 = .ok (.iaload, 1) := by decide +kernel
theorem dX10_repair_43 : decode cX10_repair 43 = .ok (.ifCond .ne 74, 3) := by decide +kernel
theorem dX10_repair_46 : decode cX10_repair 46 = .ok (.aload_n 0, 1) := by decide +kernel
theorem dX10_repair_47 : decode cX10_repair 47 = .ok (.getfield 123, 3) := by decide +kernel
theorem dX10_repair_50 : decode cX10_repair 50 = .ok (.iload_n 1, 1) := by decide +kernel
theorem dX10_repair_51 : decode cX10_repair 51 = .ok (.iconst 0, 1) := by decide +kernel
theorem dX10_repair_52 : decode cX10_repair 52 = .ok (.iastore, 1) := by decide +kernel
theorem dX10_repair_53 : decode cX10_repair 53 = .ok (.aload_n 0, 1) := by decide +kernel
theorem dX10_repair_54 : decode cX10_repair 54 = .ok (.getfield 117, 3) := by decide +kernel
theorem dX10_repair_57 : decode cX10_repair 57 = .ok (.iload_n 1, 1) := by decide +kernel
theorem dX10_repair_58 : decode cX10_repair 58 = .ok (.iconst 0, 1) := by decide +kernel
theorem dX10_repair_59 : decode cX10_repair 59 = .ok (.iastore, 1) := by decide +kernel
theorem dX10_repair_60 : decode cX10_repair 60 = .ok (.goto 57, 3) := by decide +kernel
theorem dX10_repair_63 : decode cX10_repair 63 = .ok (.aload_n 0, 1) := by decide +kernel
theorem dX10_repair_64 : decode cX10_repair 64 = .ok (.getfield 123, 3) := by decide +kernel
theorem dX10_repair_67 : decode cX10_repair 67 = .ok (.iload_n 1, 1) := by decide +kernel
theorem dX10_repair_68 : decode cX10_repair 68 = .ok (.iaload, 1) := by decide +kernel
theorem dX10_repair_69 : decode cX10_repair 69 = .ok (.iconst 1, 1) := by decide +kernel
theorem dX10_repair_70 : decode cX10_repair 70 = .ok (.if_icmp .ne 47, 3) := by decide +kernel
theorem dX10_repair_73 : decode cX10_repair 73 = .ok (.iload_n 2, 1) := by decide +kernel
theorem dX10_repair_74 : decode cX10_repair 74 = .ok (.iconst (-1), 1) := by decide +kernel
theorem dX10_repair_75 : decode cX10_repair 75 = .ok (.if_icmp .eq 11, 3) := by decide +kernel
theorem dX10_repair_78 : decode cX10_repair 78 = .ok (.aload_n 0, 1) := by decide +kernel
theorem dX10_repair_79 : decode cX10_repair 79 = .ok (.iload_n 2, 1) := by decide +kernel
theorem dX10_repair_80 : decode cX10_repair 80 = .ok (.invokevirtual 252, 3) := by decide +kernel
theorem dX10_repair_83 : decode cX10_repair 83 = .ok (.ifCond .le 34, 3) := by decide +kernel
theorem dX10_repair_86 : decode cX10_repair 86 = .ok (.iload_n 2, 1) := by decide +kernel
theorem dX10_repair_87 : decode cX10_repair 87 = .ok (.iconst (-1), 1) := by decide +kernel
theorem dX10_repair_88 : decode cX10_repair 88 = .ok (.if_icmp .eq 10, 3) := by decide +kernel
theorem dX10_repair_91 : decode cX10_repair 91 = .ok (.aload_n 0, 1) := by decide +kernel
theorem dX10_repair_92 : decode cX10_repair 92 = .ok (.iload_n 2, 1) := by decide +kernel
theorem dX10_repair_93 : decode cX10_repair 93 = .ok (.iconst 1, 1) := by decide +kernel
theorem dX10_repair_94 : decode cX10_repair 94 = .ok (.iconst (-1), 1) := by decide +kernel
theorem dX10_repair_95 : decode cX10_repair 95 = .ok (.invokevirtual 255, 3) := by decide +kernel
theorem dX10_repair_98 : decode cX10_repair 98 = .ok (.aload_n 0, 1) := by decide +kernel
theorem dX10_repair_99 : decode cX10_repair 99 = .ok (.getfield 123, 3) := by decide +kernel
theorem dX10_repair_102 : decode cX10_repair 102 = .ok (.iload_n 1, 1) := by decide +kernel
theorem dX10_repair_103 : decode cX10_repair 103 = .ok (.iconst 2, 1) := by decide +kernel
theorem dX10_repair_104 : decode cX10_repair 104 = .ok (.iastore, 1) := by decide +kernel
theorem dX10_repair_105 : decode cX10_repair 105 = .ok (.aload_n 0, 1) := by decide +kernel
theorem dX10_repair_106 : decode cX10_repair 106 = .ok (.getfield 126, 3) := by decide +kernel
theorem dX10_repair_109 : decode cX10_repair 109 = .ok (.iload_n 1, 1) := by decide +kernel
theorem dX10_repair_110 : decode cX10_repair 110 = .ok (.aload_n 0, 1) := by decide +kernel
theorem dX10_repair_111 : decode cX10_repair 111 = .ok (.getfield 102, 3) := by decide +kernel
theorem dX10_repair_114 : decode cX10_repair 114 = .ok (.iload_n 1, 1) := by decide +kernel
theorem dX10_repair_115 : decode cX10_repair 115 = .ok (.iaload, 1) := by decide +kernel
theorem dX10_repair_116 : decode cX10_repair 116 = .ok (.iastore, 1) := by decide +kernel
theorem dX10_repair_117 : decode cX10_repair 117 = .ok (.iinc 1 1, 3) := by decide +kernel
theorem dX10_repair_120 : decode cX10_repair 120 = .ok (.goto (-118), 3) := by decide +kernel
theorem dX10_repair_123 : decode cX10_repair 123 = .ok (.return_, 1) := by decide +kernel
theorem dX10_personFor_0 : decode cX10_personFor 0 = .ok (.aload_n 0, 1) := by decide +kernel
theorem dX10_personFor_1 : decode cX10_personFor 1 = .ok (.getfield 37, 3) := by decide +kernel
theorem dX10_personFor_4 : decode cX10_personFor 4 = .ok (.iconst 4, 1) := by decide +kernel
theorem dX10_personFor_5 : decode cX10_personFor 5 = .ok (.aload_n 0, 1) := by decide +kernel
theorem dX10_personFor_6 : decode cX10_personFor 6 = .ok (.getfield 53, 3) := by decide +kernel
theorem dX10_personFor_9 : decode cX10_personFor 9 = .ok (.iload_n 1, 1) := by decide +kernel
theorem dX10_personFor_10 : decode cX10_personFor 10 = .ok (.iaload, 1) := by decide +kernel
theorem dX10_personFor_11 : decode cX10_personFor 11 = .ok (.imul, 1) := by decide +kernel
theorem dX10_personFor_12 : decode cX10_personFor 12 = .ok (.aload_n 0, 1) := by decide +kernel
theorem dX10_personFor_13 : decode cX10_personFor 13 = .ok (.getfield 65, 3) := by decide +kernel
theorem dX10_personFor_16 : decode cX10_personFor 16 = .ok (.iload_n 1, 1) := by decide +kernel
theorem dX10_personFor_17 : decode cX10_personFor 17 = .ok (.iaload, 1) := by decide +kernel
theorem dX10_personFor_18 : decode cX10_personFor 18 = .ok (.iadd, 1) := by decide +kernel
theorem dX10_personFor_19 : decode cX10_personFor 19 = .ok (.iaload, 1) := by decide +kernel
theorem dX10_personFor_20 : decode cX10_personFor 20 = .ok (.istore_n 2, 1) := by decide +kernel
theorem dX10_personFor_21 : decode cX10_personFor 21 = .ok (.iconst (-1), 1) := by decide +kernel
theorem dX10_personFor_22 : decode cX10_personFor 22 = .ok (.istore_n 3, 1) := by decide +kernel
theorem dX10_personFor_23 : decode cX10_personFor 23 = .ok (.iconst 0, 1) := by decide +kernel
theorem dX10_personFor_24 : decode cX10_personFor 24 = .ok (.istore 4, 2) := by decide +kernel
theorem dX10_personFor_26 : decode cX10_personFor 26 = .ok (.iload 4, 2) := by decide +kernel
theorem dX10_personFor_28 : decode cX10_personFor 28 = .ok (.aload_n 0, 1) := by decide +kernel
theorem dX10_personFor_29 : decode cX10_personFor 29 = .ok (.getfield 186, 3) := by decide +kernel
theorem dX10_personFor_32 : decode cX10_personFor 32 = .ok (.if_icmp .ge 85, 3) := by decide +kernel
theorem dX10_personFor_35 : decode cX10_personFor 35 = .ok (.aload_n 0, 1) := by decide +kernel
theorem dX10_personFor_36 : decode cX10_personFor 36 = .ok (.getfield 138, 3) := by decide +kernel
theorem dX10_personFor_39 : decode cX10_personFor 39 = .ok (.iconst 4, 1) := by decide +kernel
theorem dX10_personFor_40 : decode cX10_personFor 40 = .ok (.iload 4, 2) := by decide +kernel
theorem dX10_personFor_42 : decode cX10_personFor 42 = .ok (.imul, 1) := by decide +kernel
theorem dX10_personFor_43 : decode cX10_personFor 43 = .ok (.iload_n 2, 1) := by decide +kernel
theorem dX10_personFor_44 : decode cX10_personFor 44 = .ok (.iadd, 1) := by decide +kernel
theorem dX10_personFor_45 : decode cX10_personFor 45 = .ok (.iaload, 1) := by decide +kernel
theorem dX10_personFor_46 : decode cX10_personFor 46 = .ok (.istore 5, 2) := by decide +kernel
theorem dX10_personFor_48 : decode cX10_personFor 48 = .ok (.iload 5, 2) := by decide +kernel
theorem dX10_personFor_50 : decode cX10_personFor 50 = .ok (.ifCond .le 26, 3) := by decide +kernel
theorem dX10_personFor_53 : decode cX10_personFor 53 = .ok (.aload_n 0, 1) := by decide +kernel
theorem dX10_personFor_54 : decode cX10_personFor 54 = .ok (.iload 4, 2) := by decide +kernel
theorem dX10_personFor_56 : decode cX10_personFor 56 = .ok (.invokevirtual 264, 3) := by decide +kernel
theorem dX10_personFor_59 : decode cX10_personFor 59 = .ok (.ifCond .eq 17, 3) := by decide +kernel
theorem dX10_personFor_62 : decode cX10_personFor 62 = .ok (.aload_n 0, 1) := by decide +kernel
theorem dX10_personFor_63 : decode cX10_personFor 63 = .ok (.iload 4, 2) := by decide +kernel
theorem dX10_personFor_65 : decode cX10_personFor 65 = .ok (.invokevirtual 273, 3) := by decide +kernel
theorem dX10_personFor_68 : decode cX10_personFor 68 = .ok (.iconst (-1), 1) := by decide +kernel
theorem dX10_personFor_69 : decode cX10_personFor 69 = .ok (.if_icmp .ne 7, 3) := by decide +kernel
theorem dX10_personFor_72 : decode cX10_personFor 72 = .ok (.iconst 1, 1) := by decide +kernel
theorem dX10_personFor_73 : decode cX10_personFor 73 = .ok (.goto 4, 3) := by decide +kernel
theorem dX10_personFor_76 : decode cX10_personFor 76 = .ok (.iconst 0, 1) := by decide +kernel
theorem dX10_personFor_77 : decode cX10_personFor 77 = .ok (.istore 6, 2) := by decide +kernel
theorem dX10_personFor_79 : decode cX10_personFor 79 = .ok (.iload 6, 2) := by decide +kernel
theorem dX10_personFor_81 : decode cX10_personFor 81 = .ok (.ifCond .eq 28, 3) := by decide +kernel
theorem dX10_personFor_84 : decode cX10_personFor 84 = .ok (.iload_n 3, 1) := by decide +kernel
theorem dX10_personFor_85 : decode cX10_personFor 85 = .ok (.iconst (-1), 1) := by decide +kernel
theorem dX10_personFor_86 : decode cX10_personFor 86 = .ok (.if_icmp .eq 18, 3) := by decide +kernel
theorem dX10_personFor_89 : decode cX10_personFor 89 = .ok (.iload 5, 2) := by decide +kernel
theorem dX10_personFor_91 : decode cX10_personFor 91 = .ok (.aload_n 0, 1) := by decide +kernel
theorem dX10_personFor_92 : decode cX10_personFor 92 = .ok (.getfield 138, 3) := by decide +kernel
theorem dX10_personFor_95 : decode cX10_personFor 95 = .ok (.iconst 4, 1) := by decide +kernel
theorem dX10_personFor_96 : decode cX10_personFor 96 = .ok (.iload_n 3, 1) := by decide +kernel
theorem dX10_personFor_97 : decode cX10_personFor 97 = .ok (.imul, 1) := by decide +kernel
theorem dX10_personFor_98 : decode cX10_personFor 98 = .ok (.iload_n 2, 1) := by decide +kernel
theorem dX10_personFor_99 : decode cX10_personFor 99 = .ok (.iadd, 1) := by decide +kernel
theorem dX10_personFor_100 : decode cX10_personFor 100 = .ok (.iaload, 1) := by decide +kernel
theorem dX10_personFor_101 : decode cX10_personFor 101 = .ok (.if_icmp .le 8, 3) := by decide +kernel
theorem dX10_personFor_104 : decode cX10_personFor 104 = .ok (.iload 4, 2) := by decide +kernel
theorem dX10_personFor_106 : decode cX10_personFor 106 = .ok (.goto 4, 3) := by decide +kernel
theorem dX10_personFor_109 : decode cX10_personFor 109 = .ok (.iload_n 3, 1) := by decide +kernel
theorem dX10_personFor_110 : decode cX10_personFor 110 = .ok (.istore_n 3, 1) := by decide +kernel
theorem dX10_personFor_111 : decode cX10_personFor 111 = .ok (.iinc 4 1, 3) := by decide +kernel
theorem dX10_personFor_114 : decode cX10_personFor 114 = .ok (.goto (-88), 3) := by decide +kernel
theorem dX10_personFor_117 : decode cX10_personFor 117 = .ok (.iload_n 3, 1) := by decide +kernel
theorem dX10_personFor_118 : decode cX10_personFor 118 = .ok (.ireturn, 1) := by decide +kernel
theorem dX10_needsParts_0 : decode cX10_needsParts 0 = .ok (.aload_n 0, 1) := by decide +kernel
theorem dX10_needsParts_1 : decode cX10_needsParts 1 = .ok (.getfield 65, 3) := by decide +kernel
theorem dX10_needsParts_4 : decode cX10_needsParts 4 = .ok (.iload_n 1, 1) := by decide +kernel
theorem dX10_needsParts_5 : decode cX10_needsParts 5 = .ok (.iaload, 1) := by decide +kernel
theorem dX10_needsParts_6 : decode cX10_needsParts 6 = .ok (.ifCond .ne 16, 3) := by decide +kernel
theorem dX10_needsParts_9 : decode cX10_needsParts 9 = .ok (.aload_n 0, 1) := by decide +kernel
theorem dX10_needsParts_10 : decode cX10_needsParts 10 = .ok (.getfield 74, 3) := by decide +kernel
theorem dX10_needsParts_13 : decode cX10_needsParts 13 = .ok (.iload_n 1, 1) := by decide +kernel
theorem dX10_needsParts_14 : decode cX10_needsParts 14 = .ok (.baload, 1) := by decide +kernel
theorem dX10_needsParts_15 : decode cX10_needsParts 15 = .ok (.ifCond .ne 7, 3) := by decide +kernel
theorem dX10_needsParts_18 : decode cX10_needsParts 18 = .ok (.iconst 1, 1) := by decide +kernel
theorem dX10_needsParts_19 : decode cX10_needsParts 19 = .ok (.goto 4, 3) := by decide +kernel
theorem dX10_needsParts_22 : decode cX10_needsParts 22 = .ok (.iconst 0, 1) := by decide +kernel
theorem dX10_needsParts_23 : decode cX10_needsParts 23 = .ok (.ireturn, 1) := by decide +kernel
theorem dX10_hasParts_0 : decode cX10_hasParts 0 = .ok (.aload_n 0, 1) := by decide +kernel
theorem dX10_hasParts_1 : decode cX10_hasParts 1 = .ok (.getfield 53, 3) := by decide +kernel
theorem dX10_hasParts_4 : decode cX10_hasParts 4 = .ok (.iload_n 1, 1) := by decide +kernel
theorem dX10_hasParts_5 : decode cX10_hasParts 5 = .ok (.iaload, 1) := by decide +kernel
theorem dX10_hasParts_6 : decode cX10_hasParts 6 = .ok (.istore_n 2, 1) := by decide +kernel
theorem dX10_hasParts_7 : decode cX10_hasParts 7 = .ok (.iconst 1, 1) := by decide +kernel
theorem dX10_hasParts_8 : decode cX10_hasParts 8 = .ok (.istore_n 3, 1) := by decide +kernel
theorem dX10_hasParts_9 : decode cX10_hasParts 9 = .ok (.iconst 0, 1) := by decide +kernel
theorem dX10_hasParts_10 : decode cX10_hasParts 10 = .ok (.istore 4, 2) := by decide +kernel
theorem dX10_hasParts_12 : decode cX10_hasParts 12 = .ok (.iload 4, 2) := by decide +kernel
theorem dX10_hasParts_14 : decode cX10_hasParts 14 = .ok (.aload_n 0, 1) := by decide +kernel
theorem dX10_hasParts_15 : decode cX10_hasParts 15 = .ok (.getfield 19, 3) := by decide +kernel
theorem dX10_hasParts_18 : decode cX10_hasParts 18 = .ok (.iload_n 2, 1) := by decide +kernel
theorem dX10_hasParts_19 : decode cX10_hasParts 19 = .ok (.iaload, 1) := by decide +kernel
theorem dX10_hasParts_20 : decode cX10_hasParts 20 = .ok (.if_icmp .ge 120, 3) := by decide +kernel
theorem dX10_hasParts_23 : decode cX10_hasParts 23 = .ok (.iload_n 3, 1) := by decide +kernel
theorem dX10_hasParts_24 : decode cX10_hasParts 24 = .ok (.ifCond .eq 116, 3) := by decide +kernel
theorem dX10_hasParts_27 : decode cX10_hasParts 27 = .ok (.iconst 3, 1) := by decide +kernel
theorem dX10_hasParts_28 : decode cX10_hasParts 28 = .ok (.iload_n 2, 1) := by decide +kernel
theorem dX10_hasParts_29 : decode cX10_hasParts 29 = .ok (.imul, 1) := by decide +kernel
theorem dX10_hasParts_30 : decode cX10_hasParts 30 = .ok (.iload 4, 2) := by decide +kernel
theorem dX10_hasParts_32 : decode cX10_hasParts 32 = .ok (.iadd, 1) := by decide +kernel
theorem dX10_hasParts_33 : decode cX10_hasParts 33 = .ok (.istore 5, 2) := by decide +kernel
theorem dX10_hasParts_35 : decode cX10_hasParts 35 = .ok (.aload_n 0, 1) := by decide +kernel
theorem dX10_hasParts_36 : decode cX10_hasParts 36 = .ok (.getfield 25, 3) := by decide +kernel
theorem dX10_hasParts_39 : decode cX10_hasParts 39 = .ok (.iload 5, 2) := by decide +kernel
theorem dX10_hasParts_41 : decode cX10_hasParts 41 = .ok (.iaload, 1) := by decide +kernel
theorem dX10_hasParts_42 : decode cX10_hasParts 42 = .ok (.aload_n 0, 1) := by decide +kernel
theorem dX10_hasParts_43 : decode cX10_hasParts 43 = .ok (.getfield 56, 3) := by decide +kernel
theorem dX10_hasParts_46 : decode cX10_hasParts 46 = .ok (.iload_n 1, 1) := by decide +kernel
theorem dX10_hasParts_47 : decode cX10_hasParts 47 = .ok (.iaload, 1) := by decide +kernel
theorem dX10_hasParts_48 : decode cX10_hasParts 48 = .ok (.imul, 1) := by decide +kernel
theorem dX10_hasParts_49 : decode cX10_hasParts 49 = .ok (.istore 6, 2) := by decide +kernel
theorem dX10_hasParts_51 : decode cX10_hasParts 51 = .ok (.aload_n 0, 1) := by decide +kernel
theorem dX10_hasParts_52 : decode cX10_hasParts 52 = .ok (.getfield 162, 3) := by decide +kernel
theorem dX10_hasParts_55 : decode cX10_hasParts 55 = .ok (.iload 4, 2) := by decide +kernel
theorem dX10_hasParts_57 : decode cX10_hasParts 57 = .ok (.aload_n 0, 1) := by decide +kernel
theorem dX10_hasParts_58 : decode cX10_hasParts 58 = .ok (.getfield 22, 3) := by decide +kernel
theorem dX10_hasParts_61 : decode cX10_hasParts 61 = .ok (.iload 5, 2) := by decide +kernel
theorem dX10_hasParts_63 : decode cX10_hasParts 63 = .ok (.iaload, 1) := by decide +kernel
theorem dX10_hasParts_64 : decode cX10_hasParts 64 = .ok (.iastore, 1) := by decide +kernel
theorem dX10_hasParts_65 : decode cX10_hasParts 65 = .ok (.aload_n 0, 1) := by decide +kernel
theorem dX10_hasParts_66 : decode cX10_hasParts 66 = .ok (.iload_n 1, 1) := by decide +kernel
theorem dX10_hasParts_67 : decode cX10_hasParts 67 = .ok (.iload 4, 2) := by decide +kernel
theorem dX10_hasParts_69 : decode cX10_hasParts 69 = .ok (.aload_n 0, 1) := by decide +kernel
theorem dX10_hasParts_70 : decode cX10_hasParts 70 = .ok (.getfield 22, 3) := by decide +kernel
theorem dX10_hasParts_73 : decode cX10_hasParts 73 = .ok (.iload 5, 2) := by decide +kernel
theorem dX10_hasParts_75 : decode cX10_hasParts 75 = .ok (.iaload, 1) := by decide +kernel
theorem dX10_hasParts_76 : decode cX10_hasParts 76 = .ok (.invokevirtual 276, 3) := by decide +kernel
theorem dX10_hasParts_79 : decode cX10_hasParts 79 = .ok (.iload 6, 2) := by decide +kernel
theorem dX10_hasParts_81 : decode cX10_hasParts 81 = .ok (.if_icmp .ge 53, 3) := by decide +kernel
theorem dX10_hasParts_84 : decode cX10_hasParts 84 = .ok (.aload_n 0, 1) := by decide +kernel
theorem dX10_hasParts_85 : decode cX10_hasParts 85 = .ok (.getfield 162, 3) := by decide +kernel
theorem dX10_hasParts_88 : decode cX10_hasParts 88 = .ok (.iload 4, 2) := by decide +kernel
theorem dX10_hasParts_90 : decode cX10_hasParts 90 = .ok (.aload_n 0, 1) := by decide +kernel
theorem dX10_hasParts_91 : decode cX10_hasParts 91 = .ok (.getfield 28, 3) := by decide +kernel
theorem dX10_hasParts_94 : decode cX10_hasParts 94 = .ok (.iload 5, 2) := by decide +kernel
theorem dX10_hasParts_96 : decode cX10_hasParts 96 = .ok (.iaload, 1) := by decide +kernel
theorem dX10_hasParts_97 : decode cX10_hasParts 97 = .ok (.iastore, 1) := by decide +kernel
theorem dX10_hasParts_98 : decode cX10_hasParts 98 = .ok (.aload_n 0, 1) := by decide +kernel
theorem dX10_hasParts_99 : decode cX10_hasParts 99 = .ok (.getfield 162, 3) := by decide +kernel
theorem dX10_hasParts_102 : decode cX10_hasParts 102 = .ok (.iload 4, 2) := by decide +kernel
theorem dX10_hasParts_104 : decode cX10_hasParts 104 = .ok (.iaload, 1) := by decide +kernel
theorem dX10_hasParts_105 : decode cX10_hasParts 105 = .ok (.iconst (-1), 1) := by decide +kernel
theorem dX10_hasParts_106 : decode cX10_hasParts 106 = .ok (.if_icmp .eq 26, 3) := by decide +kernel
theorem dX10_hasParts_109 : decode cX10_hasParts 109 = .ok (.aload_n 0, 1) := by decide +kernel
theorem dX10_hasParts_110 : decode cX10_hasParts 110 = .ok (.iload_n 1, 1) := by decide +kernel
theorem dX10_hasParts_111 : decode cX10_hasParts 111 = .ok (.iload 4, 2) := by decide +kernel
theorem dX10_hasParts_113 : decode cX10_hasParts 113 = .ok (.aload_n 0, 1) := by decide +kernel
theorem dX10_hasParts_114 : decode cX10_hasParts 114 = .ok (.getfield 162, 3) := by decide +kernel
theorem dX10_hasParts_117 : decode cX10_hasParts 117 = .ok (.iload 4, 2) := by decide +kernel
theorem dX10_hasParts_119 : decode cX10_hasParts 119 = .ok (.iaload, 1) := by decide +kernel
theorem dX10_hasParts_120 : decode cX10_hasParts 120 = .ok (.invokevirtual 276, 3) := by decide +kernel
theorem dX10_hasParts_123 : decode cX10_hasParts 123 = .ok (.iload 6, 2) := by decide +kernel
theorem dX10_hasParts_125 : decode cX10_hasParts 125 = .ok (.if_icmp .lt 7, 3) := by decide +kernel
theorem dX10_hasParts_128 : decode cX10_hasParts 128 = .ok (.iconst 1, 1) := by decide +kernel
theorem dX10_hasParts_129 : decode cX10_hasParts 129 = .ok (.goto 4, 3) := by decide +kernel
theorem dX10_hasParts_132 : decode cX10_hasParts 132 = .ok (.iconst 0, 1) := by decide +kernel
theorem dX10_hasParts_133 : decode cX10_hasParts 133 = .ok (.istore_n 3, 1) := by decide +kernel
theorem dX10_hasParts_134 : decode cX10_hasParts 134 = .ok (.iinc 4 1, 3) := by decide +kernel
theorem dX10_hasParts_137 : decode cX10_hasParts 137 = .ok (.goto (-125), 3) := by decide +kernel
theorem dX10_hasParts_140 : decode cX10_hasParts 140 = .ok (.iload_n 3, 1) := by decide +kernel
theorem dX10_hasParts_141 : decode cX10_hasParts 141 = .ok (.ireturn, 1) := by decide +kernel
theorem dX10_freeBehind_0 : decode cX10_freeBehind 0 = .ok (.aload_n 0, 1) := by decide +kernel
theorem dX10_freeBehind_1 : decode cX10_freeBehind 1 = .ok (.iload_n 3, 1) := by decide +kernel
theorem dX10_freeBehind_2 : decode cX10_freeBehind 2 = .ok (.invokevirtual 252, 3) := by decide +kernel
theorem dX10_freeBehind_5 : decode cX10_freeBehind 5 = .ok (.istore 4, 2) := by decide +kernel
theorem dX10_freeBehind_7 : decode cX10_freeBehind 7 = .ok (.iconst 0, 1) := by decide +kernel
theorem dX10_freeBehind_8 : decode cX10_freeBehind 8 = .ok (.istore 5, 2) := by decide +kernel
theorem dX10_freeBehind_10 : decode cX10_freeBehind 10 = .ok (.iload 5, 2) := by decide +kernel
theorem dX10_freeBehind_12 : decode cX10_freeBehind 12 = .ok (.iload_n 2, 1) := by decide +kernel
theorem dX10_freeBehind_13 : decode cX10_freeBehind 13 = .ok (.if_icmp .ge 52, 3) := by decide +kernel
theorem dX10_freeBehind_16 : decode cX10_freeBehind 16 = .ok (.iload 4, 2) := by decide +kernel
theorem dX10_freeBehind_18 : decode cX10_freeBehind 18 = .ok (.aload_n 0, 1) := by decide +kernel
theorem dX10_freeBehind_19 : decode cX10_freeBehind 19 = .ok (.getfield 162, 3) := by decide +kernel
theorem dX10_freeBehind_22 : decode cX10_freeBehind 22 = .ok (.iload 5, 2) := by decide +kernel
theorem dX10_freeBehind_24 : decode cX10_freeBehind 24 = .ok (.iaload, 1) := by decide +kernel
theorem dX10_freeBehind_25 : decode cX10_freeBehind 25 = .ok (.iload_n 3, 1) := by decide +kernel
theorem dX10_freeBehind_26 : decode cX10_freeBehind 26 = .ok (.if_icmp .ne 29, 3) := by decide +kernel
theorem dX10_freeBehind_29 : decode cX10_freeBehind 29 = .ok (.aload_n 0, 1) := by decide +kernel
theorem dX10_freeBehind_30 : decode cX10_freeBehind 30 = .ok (.getfield 25, 3) := by decide +kernel
theorem dX10_freeBehind_33 : decode cX10_freeBehind 33 = .ok (.iconst 3, 1) := by decide +kernel
theorem dX10_freeBehind_34 : decode cX10_freeBehind 34 = .ok (.aload_n 0, 1) := by decide +kernel
theorem dX10_freeBehind_35 : decode cX10_freeBehind 35 = .ok (.getfield 53, 3) := by decide +kernel
theorem dX10_freeBehind_38 : decode cX10_freeBehind 38 = .ok (.iload_n 1, 1) := by decide +kernel
theorem dX10_freeBehind_39 : decode cX10_freeBehind 39 = .ok (.iaload, 1) := by decide +kernel
theorem dX10_freeBehind_40 : decode cX10_freeBehind 40 = .ok (.imul, 1) := by decide +kernel
theorem dX10_freeBehind_41 : decode cX10_freeBehind 41 = .ok (.iload 5, 2) := by decide +kernel
theorem dX10_freeBehind_43 : decode cX10_freeBehind 43 = .ok (.iadd, 1) := by decide +kernel
theorem dX10_freeBehind_44 : decode cX10_freeBehind 44 = .ok (.iaload, 1) := by decide +kernel
theorem dX10_freeBehind_45 : decode cX10_freeBehind 45 = .ok (.aload_n 0, 1) := by decide +kernel
theorem dX10_freeBehind_46 : decode cX10_freeBehind 46 = .ok (.getfield 56, 3) := by decide +kernel
theorem dX10_freeBehind_49 : decode cX10_freeBehind 49 = .ok (.iload_n 1, 1) := by decide +kernel
theorem dX10_freeBehind_50 : decode cX10_freeBehind 50 = .ok (.iaload, 1) := by decide +kernel
theorem dX10_freeBehind_51 : decode cX10_freeBehind 51 = .ok (.imul, 1) := by decide +kernel
theorem dX10_freeBehind_52 : decode cX10_freeBehind 52 = .ok (.goto 4, 3) := by decide +kernel
theorem dX10_freeBehind_55 : decode cX10_freeBehind 55 = .ok (.iconst 0, 1) := by decide +kernel
theorem dX10_freeBehind_56 : decode cX10_freeBehind 56 = .ok (.isub, 1) := by decide +kernel
theorem dX10_freeBehind_57 : decode cX10_freeBehind 57 = .ok (.istore 4, 2) := by decide +kernel
theorem dX10_freeBehind_59 : decode cX10_freeBehind 59 = .ok (.iinc 5 1, 3) := by decide +kernel
theorem dX10_freeBehind_62 : decode cX10_freeBehind 62 = .ok (.goto (-52), 3) := by decide +kernel
theorem dX10_freeBehind_65 : decode cX10_freeBehind 65 = .ok (.iload 4, 2) := by decide +kernel
theorem dX10_freeBehind_67 : decode cX10_freeBehind 67 = .ok (.ireturn, 1) := by decide +kernel
theorem dX10_canBegin_0 : decode cX10_canBegin 0 = .ok (.aload_n 0, 1) := by decide +kernel
theorem dX10_canBegin_1 : decode cX10_canBegin 1 = .ok (.iload_n 1, 1) := by decide +kernel
theorem dX10_canBegin_2 : decode cX10_canBegin 2 = .ok (.invokevirtual 279, 3) := by decide +kernel
theorem dX10_canBegin_5 : decode cX10_canBegin 5 = .ok (.iconst (-1), 1) := by decide +kernel
theorem dX10_canBegin_6 : decode cX10_canBegin 6 = .ok (.if_icmp .eq 23, 3) := by decide +kernel
theorem dX10_canBegin_9 : decode cX10_canBegin 9 = .ok (.aload_n 0, 1) := by decide +kernel
theorem dX10_canBegin_10 : decode cX10_canBegin 10 = .ok (.iload_n 1, 1) := by decide +kernel
theorem dX10_canBegin_11 : decode cX10_canBegin 11 = .ok (.invokevirtual 282, 3) := by decide +kernel
theorem dX10_canBegin_14 : decode cX10_canBegin 14 = .ok (.ifCond .eq 11, 3) := by decide +kernel
theorem dX10_canBegin_17 : decode cX10_canBegin 17 = .ok (.aload_n 0, 1) := by decide +kernel
theorem dX10_canBegin_18 : decode cX10_canBegin 18 = .ok (.iload_n 1, 1) := by decide +kernel
theorem dX10_canBegin_19 : decode cX10_canBegin 19 = .ok (.invokevirtual 285, 3) := by decide +kernel
theorem dX10_canBegin_22 : decode cX10_canBegin 22 = .ok (.ifCond .eq 7, 3) := by decide +kernel
theorem dX10_canBegin_25 : decode cX10_canBegin 25 = .ok (.iconst 1, 1) := by decide +kernel
theorem dX10_canBegin_26 : decode cX10_canBegin 26 = .ok (.goto 4, 3) := by decide +kernel
theorem dX10_canBegin_29 : decode cX10_canBegin 29 = .ok (.iconst 0, 1) := by decide +kernel
theorem dX10_canBegin_30 : decode cX10_canBegin 30 = .ok (.ireturn, 1) := by decide +kernel
theorem dX10_canDo_0 : decode cX10_canDo 0 = .ok (.aload_n 0, 1) := by decide +kernel
theorem dX10_canDo_1 : decode cX10_canDo 1 = .ok (.getfield 90, 3) := by decide +kernel
theorem dX10_canDo_4 : decode cX10_canDo 4 = .ok (.iload_n 1, 1) := by decide +kernel
theorem dX10_canDo_5 : decode cX10_canDo 5 = .ok (.iaload, 1) := by decide +kernel
theorem dX10_canDo_6 : decode cX10_canDo 6 = .ok (.aload_n 0, 1) := by decide +kernel
theorem dX10_canDo_7 : decode cX10_canDo 7 = .ok (.iload_n 2, 1) := by decide +kernel
theorem dX10_canDo_8 : decode cX10_canDo 8 = .ok (.invokevirtual 196, 3) := by decide +kernel
theorem dX10_canDo_11 : decode cX10_canDo 11 = .ok (.ishr, 1) := by decide +kernel
theorem dX10_canDo_12 : decode cX10_canDo 12 = .ok (.iconst 1, 1) := by decide +kernel
theorem dX10_canDo_13 : decode cX10_canDo 13 = .ok (.iand, 1) := by decide +kernel
theorem dX10_canDo_14 : decode cX10_canDo 14 = .ok (.iconst 1, 1) := by decide +kernel
theorem dX10_canDo_15 : decode cX10_canDo 15 = .ok (.if_icmp .ne 7, 3) := by decide +kernel
theorem dX10_canDo_18 : decode cX10_canDo 18 = .ok (.iconst 1, 1) := by decide +kernel
theorem dX10_canDo_19 : decode cX10_canDo 19 = .ok (.goto 4, 3) := by decide +kernel
theorem dX10_canDo_22 : decode cX10_canDo 22 = .ok (.iconst 0, 1) := by decide +kernel
theorem dX10_canDo_23 : decode cX10_canDo 23 = .ok (.ireturn, 1) := by decide +kernel
theorem dX10_begin_0 : decode cX10_begin 0 = .ok (.aload_n 0, 1) := by decide +kernel
theorem dX10_begin_1 : decode cX10_begin 1 = .ok (.getfield 53, 3) := by decide +kernel
theorem dX10_begin_4 : decode cX10_begin 4 = .ok (.iload_n 2, 1) := by decide +kernel
theorem dX10_begin_5 : decode cX10_begin 5 = .ok (.iaload, 1) := by decide +kernel
theorem dX10_begin_6 : decode cX10_begin 6 = .ok (.istore_n 3, 1) := by decide +kernel
theorem dX10_begin_7 : decode cX10_begin 7 = .ok (.iconst 4, 1) := by decide +kernel
theorem dX10_begin_8 : decode cX10_begin 8 = .ok (.iload_n 3, 1) := by decide +kernel
theorem dX10_begin_9 : decode cX10_begin 9 = .ok (.imul, 1) := by decide +kernel
theorem dX10_begin_10 : decode cX10_begin 10 = .ok (.aload_n 0, 1) := by decide +kernel
theorem dX10_begin_11 : decode cX10_begin 11 = .ok (.getfield 65, 3) := by decide +kernel
theorem dX10_begin_14 : decode cX10_begin 14 = .ok (.iload_n 2, 1) := by decide +kernel
theorem dX10_begin_15 : decode cX10_begin 15 = .ok (.iaload, 1) := by decide +kernel
theorem dX10_begin_16 : decode cX10_begin 16 = .ok (.iadd, 1) := by decide +kernel
theorem dX10_begin_17 : decode cX10_begin 17 = .ok (.istore 4, 2) := by decide +kernel
theorem dX10_begin_19 : decode cX10_begin 19 = .ok (.aload_n 0, 1) := by decide +kernel
theorem dX10_begin_20 : decode cX10_begin 20 = .ok (.iload_n 2, 1) := by decide +kernel
theorem dX10_begin_21 : decode cX10_begin 21 = .ok (.invokevirtual 279, 3) := by decide +kernel
theorem dX10_begin_24 : decode cX10_begin 24 = .ok (.istore 5, 2) := by decide +kernel
theorem dX10_begin_26 : decode cX10_begin 26 = .ok (.aload_n 0, 1) := by decide +kernel
theorem dX10_begin_27 : decode cX10_begin 27 = .ok (.iload_n 2, 1) := by decide +kernel
theorem dX10_begin_28 : decode cX10_begin 28 = .ok (.invokevirtual 282, 3) := by decide +kernel
theorem dX10_begin_31 : decode cX10_begin 31 = .ok (.ifCond .eq 61, 3) := by decide +kernel
theorem dX10_begin_34 : decode cX10_begin 34 = .ok (.aload_n 0, 1) := by decide +kernel
theorem dX10_begin_35 : decode cX10_begin 35 = .ok (.iload_n 2, 1) := by decide +kernel
theorem dX10_begin_36 : decode cX10_begin 36 = .ok (.invokevirtual 285, 3) := by decide +kernel
theorem dX10_begin_39 : decode cX10_begin 39 = .ok (.ifCond .eq 53, 3) := by decide +kernel
theorem dX10_begin_42 : decode cX10_begin 42 = .ok (.iconst 0, 1) := by decide +kernel
theorem dX10_begin_43 : decode cX10_begin 43 = .ok (.istore 6, 2) := by decide +kernel
theorem dX10_begin_45 : decode cX10_begin 45 = .ok (.iload 6, 2) := by decide +kernel
theorem dX10_begin_47 : decode cX10_begin 47 = .ok (.aload_n 0, 1) := by decide +kernel
theorem dX10_begin_48 : decode cX10_begin 48 = .ok (.getfield 19, 3) := by decide +kernel
theorem dX10_begin_51 : decode cX10_begin 51 = .ok (.iload_n 3, 1) := by decide +kernel
theorem dX10_begin_52 : decode cX10_begin 52 = .ok (.iaload, 1) := by decide +kernel
theorem dX10_begin_53 : decode cX10_begin 53 = .ok (.if_icmp .ge 39, 3) := by decide +kernel
theorem dX10_begin_56 : decode cX10_begin 56 = .ok (.aload_n 0, 1) := by decide +kernel
theorem dX10_begin_57 : decode cX10_begin 57 = .ok (.aload_n 0, 1) := by decide +kernel
theorem dX10_begin_58 : decode cX10_begin 58 = .ok (.getfield 162, 3) := by decide +kernel
theorem dX10_begin_61 : decode cX10_begin 61 = .ok (.iload 6, 2) := by decide +kernel
theorem dX10_begin_63 : decode cX10_begin 63 = .ok (.iaload, 1) := by decide +kernel
theorem dX10_begin_64 : decode cX10_begin 64 = .ok (.aload_n 0, 1) := by decide +kernel
theorem dX10_begin_65 : decode cX10_begin 65 = .ok (.getfield 25, 3) := by decide +kernel
theorem dX10_begin_68 : decode cX10_begin 68 = .ok (.iconst 3, 1) := by decide +kernel
theorem dX10_begin_69 : decode cX10_begin 69 = .ok (.iload_n 3, 1) := by decide +kernel
theorem dX10_begin_70 : decode cX10_begin 70 = .ok (.imul, 1) := by decide +kernel
theorem dX10_begin_71 : decode cX10_begin 71 = .ok (.iload 6, 2) := by decide +kernel
theorem dX10_begin_73 : decode cX10_begin 73 = .ok (.iadd, 1) := by decide +kernel
theorem dX10_begin_74 : decode cX10_begin 74 = .ok (.iaload, 1) := by decide +kernel
theorem dX10_begin_75 : decode cX10_begin 75 = .ok (.aload_n 0, 1) := by decide +kernel
theorem dX10_begin_76 : decode cX10_begin 76 = .ok (.getfield 56, 3) := by decide +kernel
theorem dX10_begin_79 : decode cX10_begin 79 = .ok (.iload_n 2, 1) := by decide +kernel
theorem dX10_begin_80 : decode cX10_begin 80 = .ok (.iaload, 1) := by decide +kernel
theorem dX10_begin_81 : decode cX10_begin 81 = .ok (.imul, 1) := by decide +kernel
theorem dX10_begin_82 : decode cX10_begin 82 = .ok (.iload_n 2, 1) := by decide +kernel
theorem dX10_begin_83 : decode cX10_begin 83 = .ok (.invokevirtual 255, 3) := by decide +kernel
theorem dX10_begin_86 : decode cX10_begin 86 = .ok (.iinc 6 1, 3) := by decide +kernel
theorem dX10_begin_89 : decode cX10_begin 89 = .ok (.goto (-44), 3) := by decide +kernel
theorem dX10_begin_92 : decode cX10_begin 92 = .ok (.aload_n 0, 1) := by decide +kernel
theorem dX10_begin_93 : decode cX10_begin 93 = .ok (.getfield 40, 3) := by decide +kernel
theorem dX10_begin_96 : decode cX10_begin 96 = .ok (.iload 4, 2) := by decide +kernel
theorem dX10_begin_98 : decode cX10_begin 98 = .ok (.iaload, 1) := by decide +kernel
theorem dX10_begin_99 : decode cX10_begin 99 = .ok (.aload_n 0, 1) := by decide +kernel
theorem dX10_begin_100 : decode cX10_begin 100 = .ok (.getfield 138, 3) := by decide +kernel
theorem dX10_begin_103 : decode cX10_begin 103 = .ok (.iconst 4, 1) := by decide +kernel
theorem dX10_begin_104 : decode cX10_begin 104 = .ok (.iload 5, 2) := by decide +kernel
theorem dX10_begin_106 : decode cX10_begin 106 = .ok (.imul, 1) := by decide +kernel
theorem dX10_begin_107 : decode cX10_begin 107 = .ok (.aload_n 0, 1) := by decide +kernel
theorem dX10_begin_108 : decode cX10_begin 108 = .ok (.getfield 37, 3) := by decide +kernel
theorem dX10_begin_111 : decode cX10_begin 111 = .ok (.iload 4, 2) := by decide +kernel
theorem dX10_begin_113 : decode cX10_begin 113 = .ok (.iaload, 1) := by decide +kernel
theorem dX10_begin_114 : decode cX10_begin 114 = .ok (.iadd, 1) := by decide +kernel
theorem dX10_begin_115 : decode cX10_begin 115 = .ok (.iaload, 1) := by decide +kernel
theorem dX10_begin_116 : decode cX10_begin 116 = .ok (.isub, 1) := by decide +kernel
theorem dX10_begin_117 : decode cX10_begin 117 = .ok (.iconst 1, 1) := by decide +kernel
theorem dX10_begin_118 : decode cX10_begin 118 = .ok (.iadd, 1) := by decide +kernel
theorem dX10_begin_119 : decode cX10_begin 119 = .ok (.istore 6, 2) := by decide +kernel
theorem dX10_begin_121 : decode cX10_begin 121 = .ok (.iload 6, 2) := by decide +kernel
theorem dX10_begin_123 : decode cX10_begin 123 = .ok (.iconst 1, 1) := by decide +kernel
theorem dX10_begin_124 : decode cX10_begin 124 = .ok (.if_icmp .ge 7, 3) := by decide +kernel
theorem dX10_begin_127 : decode cX10_begin 127 = .ok (.iconst 1, 1) := by decide +kernel
theorem dX10_begin_128 : decode cX10_begin 128 = .ok (.goto 5, 3) := by decide +kernel
theorem dX10_begin_131 : decode cX10_begin 131 = .ok (.iload 6, 2) := by decide +kernel
theorem dX10_begin_133 : decode cX10_begin 133 = .ok (.istore 6, 2) := by decide +kernel
theorem dX10_begin_135 : decode cX10_begin 135 = .ok (.aload_n 0, 1) := by decide +kernel
theorem dX10_begin_136 : decode cX10_begin 136 = .ok (.getfield 111, 3) := by decide +kernel
theorem dX10_begin_139 : decode cX10_begin 139 = .ok (.iload_n 1, 1) := by decide +kernel
theorem dX10_begin_140 : decode cX10_begin 140 = .ok (.iload 6, 2) := by decide +kernel
theorem dX10_begin_142 : decode cX10_begin 142 = .ok (.aload_n 0, 1) := by decide +kernel
theorem dX10_begin_143 : decode cX10_begin 143 = .ok (.getfield 120, 3) := by decide +kernel
theorem dX10_begin_146 : decode cX10_begin 146 = .ok (.iload_n 1, 1) := by decide +kernel
theorem dX10_begin_147 : decode cX10_begin 147 = .ok (.iaload, 1) := by decide +kernel
theorem dX10_begin_148 : decode cX10_begin 148 = .ok (.iload_n 3, 1) := by decide +kernel
theorem dX10_begin_149 : decode cX10_begin 149 = .ok (.if_icmp .eq 12, 3) := by decide +kernel
theorem dX10_begin_152 : decode cX10_begin 152 = .ok (.aload_n 0, 1) := by decide +kernel
theorem dX10_begin_153 : decode cX10_begin 153 = .ok (.getfield 93, 3) := by decide +kernel
theorem dX10_begin_156 : decode cX10_begin 156 = .ok (.iload_n 1, 1) := by decide +kernel
theorem dX10_begin_157 : decode cX10_begin 157 = .ok (.iaload, 1) := by decide +kernel
theorem dX10_begin_158 : decode cX10_begin 158 = .ok (.goto 4, 3) := by decide +kernel
theorem dX10_begin_161 : decode cX10_begin 161 = .ok (.iconst 0, 1) := by decide +kernel
theorem dX10_begin_162 : decode cX10_begin 162 = .ok (.iadd, 1) := by decide +kernel
theorem dX10_begin_163 : decode cX10_begin 163 = .ok (.iastore, 1) := by decide +kernel
theorem dX10_begin_164 : decode cX10_begin 164 = .ok (.aload_n 0, 1) := by decide +kernel
theorem dX10_begin_165 : decode cX10_begin 165 = .ok (.getfield 120, 3) := by decide +kernel
theorem dX10_begin_168 : decode cX10_begin 168 = .ok (.iload_n 1, 1) := by decide +kernel
theorem dX10_begin_169 : decode cX10_begin 169 = .ok (.iload_n 3, 1) := by decide +kernel
theorem dX10_begin_170 : decode cX10_begin 170 = .ok (.iastore, 1) := by decide +kernel
theorem dX10_begin_171 : decode cX10_begin 171 = .ok (.aload_n 0, 1) := by decide +kernel
theorem dX10_begin_172 : decode cX10_begin 172 = .ok (.getfield 108, 3) := by decide +kernel
theorem dX10_begin_175 : decode cX10_begin 175 = .ok (.iload_n 1, 1) := by decide +kernel
theorem dX10_begin_176 : decode cX10_begin 176 = .ok (.iload_n 2, 1) := by decide +kernel
theorem dX10_begin_177 : decode cX10_begin 177 = .ok (.iastore, 1) := by decide +kernel
theorem dX10_begin_178 : decode cX10_begin 178 = .ok (.aload_n 0, 1) := by decide +kernel
theorem dX10_begin_179 : decode cX10_begin 179 = .ok (.getfield 114, 3) := by decide +kernel
theorem dX10_begin_182 : decode cX10_begin 182 = .ok (.iload_n 1, 1) := by decide +kernel
theorem dX10_begin_183 : decode cX10_begin 183 = .ok (.iload 5, 2) := by decide +kernel
theorem dX10_begin_185 : decode cX10_begin 185 = .ok (.iastore, 1) := by decide +kernel
theorem dX10_begin_186 : decode cX10_begin 186 = .ok (.aload_n 0, 1) := by decide +kernel
theorem dX10_begin_187 : decode cX10_begin 187 = .ok (.getfield 62, 3) := by decide +kernel
theorem dX10_begin_190 : decode cX10_begin 190 = .ok (.iload_n 2, 1) := by decide +kernel
theorem dX10_begin_191 : decode cX10_begin 191 = .ok (.iconst 2, 1) := by decide +kernel
theorem dX10_begin_192 : decode cX10_begin 192 = .ok (.iastore, 1) := by decide +kernel
theorem dX10_begin_193 : decode cX10_begin 193 = .ok (.aload_n 0, 1) := by decide +kernel
theorem dX10_begin_194 : decode cX10_begin 194 = .ok (.getfield 80, 3) := by decide +kernel
theorem dX10_begin_197 : decode cX10_begin 197 = .ok (.iload_n 2, 1) := by decide +kernel
theorem dX10_begin_198 : decode cX10_begin 198 = .ok (.iconst 0, 1) := by decide +kernel
theorem dX10_begin_199 : decode cX10_begin 199 = .ok (.bastore, 1) := by decide +kernel
theorem dX10_begin_200 : decode cX10_begin 200 = .ok (.return_, 1) := by decide +kernel
theorem dX10_take_0 : decode cX10_take 0 = .ok (.iconst 0, 1) := by decide +kernel
theorem dX10_take_1 : decode cX10_take 1 = .ok (.istore_n 1, 1) := by decide +kernel
theorem dX10_take_2 : decode cX10_take 2 = .ok (.iload_n 1, 1) := by decide +kernel
theorem dX10_take_3 : decode cX10_take 3 = .ok (.aload_n 0, 1) := by decide +kernel
theorem dX10_take_4 : decode cX10_take 4 = .ok (.getfield 183, 3) := by decide +kernel
theorem dX10_take_7 : decode cX10_take 7 = .ok (.if_icmp .ge 131, 3) := by decide +kernel
theorem dX10_take_10 : decode cX10_take 10 = .ok (.iconst (-1), 1) := by decide +kernel
theorem dX10_take_11 : decode cX10_take 11 = .ok (.istore_n 2, 1) := by decide +kernel
theorem dX10_take_12 : decode cX10_take 12 = .ok (.iconst 0, 1) := by decide +kernel
theorem dX10_take_13 : decode cX10_take 13 = .ok (.istore_n 3, 1) := by decide +kernel
theorem dX10_take_14 : decode cX10_take 14 = .ok (.iload_n 3, 1) := by decide +kernel
theorem dX10_take_15 : decode cX10_take 15 = .ok (.aload_n 0, 1) := by decide +kernel
theorem dX10_take_16 : decode cX10_take 16 = .ok (.getfield 176, 3) := by decide +kernel
theorem dX10_take_19 : decode cX10_take 19 = .ok (.if_icmp .ge 102, 3) := by decide +kernel
theorem dX10_take_22 : decode cX10_take 22 = .ok (.aload_n 0, 1) := by decide +kernel
theorem dX10_take_23 : decode cX10_take 23 = .ok (.getfield 108, 3) := by decide +kernel
theorem dX10_take_26 : decode cX10_take 26 = .ok (.iload_n 1, 1) := by decide +kernel
theorem dX10_take_27 : decode cX10_take 27 = .ok (.iaload, 1) := by decide +kernel
theorem dX10_take_28 : decode cX10_take 28 = .ok (.iconst (-1), 1) := by decide +kernel
theorem dX10_take_29 : decode cX10_take 29 = .ok (.if_icmp .ne 92, 3) := by decide +kernel
theorem dX10_take_32 : decode cX10_take 32 = .ok (.aload_n 0, 1) := by decide +kernel
theorem dX10_take_33 : decode cX10_take 33 = .ok (.getfield 123, 3) := by decide +kernel
theorem dX10_take_36 : decode cX10_take 36 = .ok (.iload_n 1, 1) := by decide +kernel
theorem dX10_take_37 : decode cX10_take 37 = .ok (.iaload, 1) := by decide +kernel
theorem dX10_take_38 : decode cX10_take 38 = .ok (.ifCond .ne 83, 3) := by decide +kernel
theorem dX10_take_41 : decode cX10_take 41 = .ok (.aload_n 0, 1) := by decide +kernel
theorem dX10_take_42 : decode cX10_take 42 = .ok (.getfield 62, 3) := by decide +kernel
theorem dX10_take_45 : decode cX10_take 45 = .ok (.iload_n 3, 1) := by decide +kernel
theorem dX10_take_46 : decode cX10_take 46 = .ok (.iaload, 1) := by decide +kernel
theorem dX10_take_47 : decode cX10_take 47 = .ok (.iconst 1, 1) := by decide +kernel
theorem dX10_take_48 : decode cX10_take 48 = .ok (.if_icmp .ne 45, 3) := by decide +kernel
theorem dX10_take_51 : decode cX10_take 51 = .ok (.aload_n 0, 1) := by decide +kernel
theorem dX10_take_52 : decode cX10_take 52 = .ok (.getfield 71, 3) := by decide +kernel
theorem dX10_take_55 : decode cX10_take 55 = .ok (.iload_n 3, 1) := by decide +kernel
theorem dX10_take_56 : decode cX10_take 56 = .ok (.baload, 1) := by decide +kernel
theorem dX10_take_57 : decode cX10_take 57 = .ok (.ifCond .ne 36, 3) := by decide +kernel
theorem dX10_take_60 : decode cX10_take 60 = .ok (.aload_n 0, 1) := by decide +kernel
theorem dX10_take_61 : decode cX10_take 61 = .ok (.iload_n 1, 1) := by decide +kernel
theorem dX10_take_62 : decode cX10_take 62 = .ok (.iload_n 3, 1) := by decide +kernel
theorem dX10_take_63 : decode cX10_take 63 = .ok (.invokevirtual 288, 3) := by decide +kernel
theorem dX10_take_66 : decode cX10_take 66 = .ok (.ifCond .eq 27, 3) := by decide +kernel
theorem dX10_take_69 : decode cX10_take 69 = .ok (.iload_n 2, 1) := by decide +kernel
theorem dX10_take_70 : decode cX10_take 70 = .ok (.iconst (-1), 1) := by decide +kernel
theorem dX10_take_71 : decode cX10_take 71 = .ok (.if_icmp .eq 18, 3) := by decide +kernel
theorem dX10_take_74 : decode cX10_take 74 = .ok (.aload_n 0, 1) := by decide +kernel
theorem dX10_take_75 : decode cX10_take 75 = .ok (.getfield 68, 3) := by decide +kernel
theorem dX10_take_78 : decode cX10_take 78 = .ok (.iload_n 3, 1) := by decide +kernel
theorem dX10_take_79 : decode cX10_take 79 = .ok (.iaload, 1) := by decide +kernel
theorem dX10_take_80 : decode cX10_take 80 = .ok (.aload_n 0, 1) := by decide +kernel
theorem dX10_take_81 : decode cX10_take 81 = .ok (.getfield 68, 3) := by decide +kernel
theorem dX10_take_84 : decode cX10_take 84 = .ok (.iload_n 2, 1) := by decide +kernel
theorem dX10_take_85 : decode cX10_take 85 = .ok (.iaload, 1) := by decide +kernel
theorem dX10_take_86 : decode cX10_take 86 = .ok (.if_icmp .le 7, 3) := by decide +kernel
theorem dX10_take_89 : decode cX10_take 89 = .ok (.iconst 1, 1) := by decide +kernel
theorem dX10_take_90 : decode cX10_take 90 = .ok (.goto 4, 3) := by decide +kernel
theorem dX10_take_93 : decode cX10_take 93 = .ok (.iconst 0, 1) := by decide +kernel
theorem dX10_take_94 : decode cX10_take 94 = .ok (.istore 4, 2) := by decide +kernel
theorem dX10_take_96 : decode cX10_take 96 = .ok (.iload 4, 2) := by decide +kernel
theorem dX10_take_98 : decode cX10_take 98 = .ok (.ifCond .eq 15, 3) := by decide +kernel
theorem dX10_take_101 : decode cX10_take 101 = .ok (.aload_n 0, 1) := by decide +kernel
theorem dX10_take_102 : decode cX10_take 102 = .ok (.iload_n 3, 1) := by decide +kernel
theorem dX10_take_103 : decode cX10_take 103 = .ok (.invokevirtual 291, 3) := by decide +kernel
theorem dX10_take_106 : decode cX10_take 106 = .ok (.ifCond .eq 7, 3) := by decide +kernel
theorem dX10_take_109 : decode cX10_take 109 = .ok (.iload_n 3, 1) := by decide +kernel
theorem dX10_take_110 : decode cX10_take 110 = .ok (.goto 4, 3) := by decide +kernel
theorem dX10_take_113 : decode cX10_take 113 = .ok (.iload_n 2, 1) := by decide +kernel
theorem dX10_take_114 : decode cX10_take 114 = .ok (.istore_n 2, 1) := by decide +kernel
theorem dX10_take_115 : decode cX10_take 115 = .ok (.iinc 3 1, 3) := by decide +kernel
theorem dX10_take_118 : decode cX10_take 118 = .ok (.goto (-104), 3) := by decide +kernel
theorem dX10_take_121 : decode cX10_take 121 = .ok (.iload_n 2, 1) := by decide +kernel
theorem dX10_take_122 : decode cX10_take 122 = .ok (.iconst (-1), 1) := by decide +kernel
theorem dX10_take_123 : decode cX10_take 123 = .ok (.if_icmp .eq 9, 3) := by decide +kernel
theorem dX10_take_126 : decode cX10_take 126 = .ok (.aload_n 0, 1) := by decide +kernel
theorem dX10_take_127 : decode cX10_take 127 = .ok (.iload_n 1, 1) := by decide +kernel
theorem dX10_take_128 : decode cX10_take 128 = .ok (.iload_n 2, 1) := by decide +kernel
theorem dX10_take_129 : decode cX10_take 129 = .ok (.invokevirtual 294, 3) := by decide +kernel
theorem dX10_take_132 : decode cX10_take 132 = .ok (.iinc 1 1, 3) := by decide +kernel
theorem dX10_take_135 : decode cX10_take 135 = .ok (.goto (-133), 3) := by decide +kernel
theorem dX10_take_138 : decode cX10_take 138 = .ok (.return_, 1) := by decide +kernel
theorem dX10_stand_0 : decode cX10_stand 0 = .ok (.aload_n 0, 1) := by decide +kernel
theorem dX10_stand_1 : decode cX10_stand 1 = .ok (.iconst 0, 1) := by decide +kernel
theorem dX10_stand_2 : decode cX10_stand 2 = .ok (.putfield 168, 3) := by decide +kernel
theorem dX10_stand_5 : decode cX10_stand 5 = .ok (.aload_n 0, 1) := by decide +kernel
theorem dX10_stand_6 : decode cX10_stand 6 = .ok (.getfield 298, 3) := by decide +kernel
theorem dX10_stand_9 : decode cX10_stand 9 = .ok (.istore_n 2, 1) := by decide +kernel
theorem dX10_stand_10 : decode cX10_stand 10 = .ok (.aload_n 0, 1) := by decide +kernel
theorem dX10_stand_11 : decode cX10_stand 11 = .ok (.iload_n 1, 1) := by decide +kernel
theorem dX10_stand_12 : decode cX10_stand 12 = .ok (.putfield 298, 3) := by decide +kernel
theorem dX10_stand_15 : decode cX10_stand 15 = .ok (.iload_n 2, 1) := by decide +kernel
theorem dX10_stand_16 : decode cX10_stand 16 = .ok (.ireturn, 1) := by decide +kernel
theorem dX10_run_0 : decode cX10_run 0 = .ok (.aload_n 0, 1) := by decide +kernel
theorem dX10_run_1 : decode cX10_run 1 = .ok (.iload_n 1, 1) := by decide +kernel
theorem dX10_run_2 : decode cX10_run 2 = .ok (.iconst 1, 1) := by decide +kernel
theorem dX10_run_3 : decode cX10_run 3 = .ok (.bipush 50, 2) := by decide +kernel
theorem dX10_run_5 : decode cX10_run 5 = .ok (.invokestatic 172, 3) := by decide +kernel
theorem dX10_run_8 : decode cX10_run 8 = .ok (.ifCond .ne 7, 3) := by decide +kernel
theorem dX10_run_11 : decode cX10_run 11 = .ok (.iconst 1, 1) := by decide +kernel
theorem dX10_run_12 : decode cX10_run 12 = .ok (.goto 20, 3) := by decide +kernel
theorem dX10_run_15 : decode cX10_run 15 = .ok (.aload_n 0, 1) := by decide +kernel
theorem dX10_run_16 : decode cX10_run 16 = .ok (.getfield 193, 3) := by decide +kernel
theorem dX10_run_19 : decode cX10_run 19 = .ok (.iload_n 1, 1) := by decide +kernel
theorem dX10_run_20 : decode cX10_run 20 = .ok (.iadd, 1) := by decide +kernel
theorem dX10_run_21 : decode cX10_run 21 = .ok (.sipush 2000, 3) := by decide +kernel
theorem dX10_run_24 : decode cX10_run 24 = .ok (.if_icmp .le 7, 3) := by decide +kernel
theorem dX10_run_27 : decode cX10_run 27 = .ok (.iconst 2, 1) := by decide +kernel
theorem dX10_run_28 : decode cX10_run 28 = .ok (.goto 4, 3) := by decide +kernel
theorem dX10_run_31 : decode cX10_run 31 = .ok (.iconst 0, 1) := by decide +kernel
theorem dX10_run_32 : decode cX10_run 32 = .ok (.putfield 168, 3) := by decide +kernel
theorem dX10_run_35 : decode cX10_run 35 = .ok (.iconst 0, 1) := by decide +kernel
theorem dX10_run_36 : decode cX10_run 36 = .ok (.istore_n 2, 1) := by decide +kernel
theorem dX10_run_37 : decode cX10_run 37 = .ok (.iload_n 2, 1) := by decide +kernel
theorem dX10_run_38 : decode cX10_run 38 = .ok (.iload_n 1, 1) := by decide +kernel
theorem dX10_run_39 : decode cX10_run 39 = .ok (.if_icmp .ge 49, 3) := by decide +kernel
theorem dX10_run_42 : decode cX10_run 42 = .ok (.aload_n 0, 1) := by decide +kernel
theorem dX10_run_43 : decode cX10_run 43 = .ok (.getfield 168, 3) := by decide +kernel
theorem dX10_run_46 : decode cX10_run 46 = .ok (.ifCond .ne 42, 3) := by decide +kernel
theorem dX10_run_49 : decode cX10_run 49 = .ok (.aload_n 0, 1) := by decide +kernel
theorem dX10_run_50 : decode cX10_run 50 = .ok (.getfield 298, 3) := by decide +kernel
theorem dX10_run_53 : decode cX10_run 53 = .ok (.ifCond .ne 19, 3) := by decide +kernel
theorem dX10_run_56 : decode cX10_run 56 = .ok (.aload_n 0, 1) := by decide +kernel
theorem dX10_run_57 : decode cX10_run 57 = .ok (.invokevirtual 302, 3) := by decide +kernel
theorem dX10_run_60 : decode cX10_run 60 = .ok (.aload_n 0, 1) := by decide +kernel
theorem dX10_run_61 : decode cX10_run 61 = .ok (.invokevirtual 305, 3) := by decide +kernel
theorem dX10_run_64 : decode cX10_run 64 = .ok (.aload_n 0, 1) := by decide +kernel
theorem dX10_run_65 : decode cX10_run 65 = .ok (.invokevirtual 308, 3) := by decide +kernel
theorem dX10_run_68 : decode cX10_run 68 = .ok (.aload_n 0, 1) := by decide +kernel
theorem dX10_run_69 : decode cX10_run 69 = .ok (.invokevirtual 311, 3) := by decide +kernel
theorem dX10_run_72 : decode cX10_run 72 = .ok (.aload_n 0, 1) := by decide +kernel
theorem dX10_run_73 : decode cX10_run 73 = .ok (.dup, 1) := by decide +kernel
theorem dX10_run_74 : decode cX10_run 74 = .ok (.getfield 193, 3) := by decide +kernel
theorem dX10_run_77 : decode cX10_run 77 = .ok (.iconst 1, 1) := by decide +kernel
theorem dX10_run_78 : decode cX10_run 78 = .ok (.iadd, 1) := by decide +kernel
theorem dX10_run_79 : decode cX10_run 79 = .ok (.putfield 193, 3) := by decide +kernel
theorem dX10_run_82 : decode cX10_run 82 = .ok (.iinc 2 1, 3) := by decide +kernel
theorem dX10_run_85 : decode cX10_run 85 = .ok (.goto (-48), 3) := by decide +kernel
theorem dX10_run_88 : decode cX10_run 88 = .ok (.aload_n 0, 1) := by decide +kernel
theorem dX10_run_89 : decode cX10_run 89 = .ok (.getfield 168, 3) := by decide +kernel
theorem dX10_run_92 : decode cX10_run 92 = .ok (.ifCond .ne 10, 3) := by decide +kernel
theorem dX10_run_95 : decode cX10_run 95 = .ok (.aload_n 0, 1) := by decide +kernel
theorem dX10_run_96 : decode cX10_run 96 = .ok (.getfield 193, 3) := by decide +kernel
theorem dX10_run_99 : decode cX10_run 99 = .ok (.goto 4, 3) := by decide +kernel
theorem dX10_run_102 : decode cX10_run 102 = .ok (.iconst 0, 1) := by decide +kernel
theorem dX10_run_103 : decode cX10_run 103 = .ok (.ireturn, 1) := by decide +kernel
theorem dX10_hour_0 : decode cX10_hour 0 = .ok (.aload_n 0, 1) := by decide +kernel
theorem dX10_hour_1 : decode cX10_hour 1 = .ok (.iconst 0, 1) := by decide +kernel
theorem dX10_hour_2 : decode cX10_hour 2 = .ok (.putfield 168, 3) := by decide +kernel
theorem dX10_hour_5 : decode cX10_hour 5 = .ok (.aload_n 0, 1) := by decide +kernel
theorem dX10_hour_6 : decode cX10_hour 6 = .ok (.getfield 193, 3) := by decide +kernel
theorem dX10_hour_9 : decode cX10_hour 9 = .ok (.ireturn, 1) := by decide +kernel
theorem dX10_batches_0 : decode cX10_batches 0 = .ok (.aload_n 0, 1) := by decide +kernel
theorem dX10_batches_1 : decode cX10_batches 1 = .ok (.iconst 0, 1) := by decide +kernel
theorem dX10_batches_2 : decode cX10_batches 2 = .ok (.putfield 168, 3) := by decide +kernel
theorem dX10_batches_5 : decode cX10_batches 5 = .ok (.aload_n 0, 1) := by decide +kernel
theorem dX10_batches_6 : decode cX10_batches 6 = .ok (.getfield 176, 3) := by decide +kernel
theorem dX10_batches_9 : decode cX10_batches 9 = .ok (.ireturn, 1) := by decide +kernel
theorem dX10_batch_0 : decode cX10_batch 0 = .ok (.aload_n 0, 1) := by decide +kernel
theorem dX10_batch_1 : decode cX10_batch 1 = .ok (.aload_n 0, 1) := by decide +kernel
theorem dX10_batch_2 : decode cX10_batch 2 = .ok (.iload_n 1, 1) := by decide +kernel
theorem dX10_batch_3 : decode cX10_batch 3 = .ok (.invokevirtual 219, 3) := by decide +kernel
theorem dX10_batch_6 : decode cX10_batch 6 = .ok (.ifCond .ne 7, 3) := by decide +kernel
theorem dX10_batch_9 : decode cX10_batch 9 = .ok (.iconst 1, 1) := by decide +kernel
theorem dX10_batch_10 : decode cX10_batch 10 = .ok (.goto 18, 3) := by decide +kernel
theorem dX10_batch_13 : decode cX10_batch 13 = .ok (.iload_n 2, 1) := by decide +kernel
theorem dX10_batch_14 : decode cX10_batch 14 = .ok (.iconst 0, 1) := by decide +kernel
theorem dX10_batch_15 : decode cX10_batch 15 = .ok (.bipush 9, 2) := by decide +kernel
theorem dX10_batch_17 : decode cX10_batch 17 = .ok (.invokestatic 172, 3) := by decide +kernel
theorem dX10_batch_20 : decode cX10_batch 20 = .ok (.ifCond .ne 7, 3) := by decide +kernel
theorem dX10_batch_23 : decode cX10_batch 23 = .ok (.iconst 2, 1) := by decide +kernel
theorem dX10_batch_24 : decode cX10_batch 24 = .ok (.goto 4, 3) := by decide +kernel
theorem dX10_batch_27 : decode cX10_batch 27 = .ok (.iconst 0, 1) := by decide +kernel
theorem dX10_batch_28 : decode cX10_batch 28 = .ok (.putfield 168, 3) := by decide +kernel
theorem dX10_batch_31 : decode cX10_batch 31 = .ok (.aload_n 0, 1) := by decide +kernel
theorem dX10_batch_32 : decode cX10_batch 32 = .ok (.getfield 168, 3) := by decide +kernel
theorem dX10_batch_35 : decode cX10_batch 35 = .ok (.ifCond .le 5, 3) := by decide +kernel
theorem dX10_batch_38 : decode cX10_batch 38 = .ok (.iconst 0, 1) := by decide +kernel
theorem dX10_batch_39 : decode cX10_batch 39 = .ok (.ireturn, 1) := by decide +kernel
theorem dX10_batch_40 : decode cX10_batch 40 = .ok (.iload_n 2, 1) := by decide +kernel
theorem dX10_batch_41 : decode cX10_batch 41 = .ok (.iconst 5, 1) := by decide +kernel
theorem dX10_batch_42 : decode cX10_batch 42 = .ok (.if_icmp .ge 65, 3) := by decide +kernel
theorem dX10_batch_45 : decode cX10_batch 45 = .ok (.iload_n 2, 1) := by decide +kernel
theorem dX10_batch_46 : decode cX10_batch 46 = .ok (.ifCond .ne 12, 3) := by decide +kernel
theorem dX10_batch_49 : decode cX10_batch 49 = .ok (.aload_n 0, 1) := by decide +kernel
theorem dX10_batch_50 : decode cX10_batch 50 = .ok (.getfield 53, 3) := by decide +kernel
theorem dX10_batch_53 : decode cX10_batch 53 = .ok (.iload_n 1, 1) := by decide +kernel
theorem dX10_batch_54 : decode cX10_batch 54 = .ok (.iaload, 1) := by decide +kernel
theorem dX10_batch_55 : decode cX10_batch 55 = .ok (.goto 51, 3) := by decide +kernel
theorem dX10_batch_58 : decode cX10_batch 58 = .ok (.iload_n 2, 1) := by decide +kernel
theorem dX10_batch_59 : decode cX10_batch 59 = .ok (.iconst 1, 1) := by decide +kernel
theorem dX10_batch_60 : decode cX10_batch 60 = .ok (.if_icmp .ne 12, 3) := by decide +kernel
theorem dX10_batch_63 : decode cX10_batch 63 = .ok (.aload_n 0, 1) := by decide +kernel
theorem dX10_batch_64 : decode cX10_batch 64 = .ok (.getfield 56, 3) := by decide +kernel
theorem dX10_batch_67 : decode cX10_batch 67 = .ok (.iload_n 1, 1) := by decide +kernel
theorem dX10_batch_68 : decode cX10_batch 68 = .ok (.iaload, 1) := by decide +kernel
theorem dX10_batch_69 : decode cX10_batch 69 = .ok (.goto 37, 3) := by decide +kernel
theorem dX10_batch_72 : decode cX10_batch 72 = .ok (.iload_n 2, 1) := by decide +kernel
theorem dX10_batch_73 : decode cX10_batch 73 = .ok (.iconst 2, 1) := by decide +kernel
theorem dX10_batch_74 : decode cX10_batch 74 = .ok (.if_icmp .ne 12, 3) := by decide +kernel
theorem dX10_batch_77 : decode cX10_batch 77 = .ok (.aload_n 0, 1) := by decide +kernel
theorem dX10_batch_78 : decode cX10_batch 78 = .ok (.getfield 59, 3) := by decide +kernel
theorem dX10_batch_81 : decode cX10_batch 81 = .ok (.iload_n 1, 1) := by decide +kernel
theorem dX10_batch_82 : decode cX10_batch 82 = .ok (.iaload, 1) := by decide +kernel
theorem dX10_batch_83 : decode cX10_batch 83 = .ok (.goto 23, 3) := by decide +kernel
theorem dX10_batch_86 : decode cX10_batch 86 = .ok (.iload_n 2, 1) := by decide +kernel
theorem dX10_batch_87 : decode cX10_batch 87 = .ok (.iconst 3, 1) := by decide +kernel
theorem dX10_batch_88 : decode cX10_batch 88 = .ok (.if_icmp .ne 12, 3) := by decide +kernel
theorem dX10_batch_91 : decode cX10_batch 91 = .ok (.aload_n 0, 1) := by decide +kernel
theorem dX10_batch_92 : decode cX10_batch 92 = .ok (.getfield 62, 3) := by decide +kernel
theorem dX10_batch_95 : decode cX10_batch 95 = .ok (.iload_n 1, 1) := by decide +kernel
theorem dX10_batch_96 : decode cX10_batch 96 = .ok (.iaload, 1) := by decide +kernel
theorem dX10_batch_97 : decode cX10_batch 97 = .ok (.goto 9, 3) := by decide +kernel
theorem dX10_batch_100 : decode cX10_batch 100 = .ok (.aload_n 0, 1) := by decide +kernel
theorem dX10_batch_101 : decode cX10_batch 101 = .ok (.getfield 65, 3) := by decide +kernel
theorem dX10_batch_104 : decode cX10_batch 104 = .ok (.iload_n 1, 1) := by decide +kernel
theorem dX10_batch_105 : decode cX10_batch 105 = .ok (.iaload, 1) := by decide +kernel
theorem dX10_batch_106 : decode cX10_batch 106 = .ok (.ireturn, 1) := by decide +kernel
theorem dX10_batch_107 : decode cX10_batch 107 = .ok (.iload_n 2, 1) := by decide +kernel
theorem dX10_batch_108 : decode cX10_batch 108 = .ok (.iconst 5, 1) := by decide +kernel
theorem dX10_batch_109 : decode cX10_batch 109 = .ok (.if_icmp .ne 12, 3) := by decide +kernel
theorem dX10_batch_112 : decode cX10_batch 112 = .ok (.aload_n 0, 1) := by decide +kernel
theorem dX10_batch_113 : decode cX10_batch 113 = .ok (.getfield 68, 3) := by decide +kernel
theorem dX10_batch_116 : decode cX10_batch 116 = .ok (.iload_n 1, 1) := by decide +kernel
theorem dX10_batch_117 : decode cX10_batch 117 = .ok (.iaload, 1) := by decide +kernel
theorem dX10_batch_118 : decode cX10_batch 118 = .ok (.goto 73, 3) := by decide +kernel
theorem dX10_batch_121 : decode cX10_batch 121 = .ok (.iload_n 2, 1) := by decide +kernel
theorem dX10_batch_122 : decode cX10_batch 122 = .ok (.bipush 6, 2) := by decide +kernel
theorem dX10_batch_124 : decode cX10_batch 124 = .ok (.if_icmp .ne 20, 3) := by decide +kernel
theorem dX10_batch_127 : decode cX10_batch 127 = .ok (.aload_n 0, 1) := by decide +kernel
theorem dX10_batch_128 : decode cX10_batch 128 = .ok (.getfield 71, 3) := by decide +kernel
theorem dX10_batch_131 : decode cX10_batch 131 = .ok (.iload_n 1, 1) := by decide +kernel
theorem dX10_batch_132 : decode cX10_batch 132 = .ok (.baload, 1) := by decide +kernel
theorem dX10_batch_133 : decode cX10_batch 133 = .ok (.ifCond .eq 7, 3) := by decide +kernel
theorem dX10_batch_136 : decode cX10_batch 136 = .ok (.iconst 1, 1) := by decide +kernel
theorem dX10_batch_137 : decode cX10_batch 137 = .ok (.goto 54, 3) := by decide +kernel
theorem dX10_batch_140 : decode cX10_batch 140 = .ok (.iconst 0, 1) := by decide +kernel
theorem dX10_batch_141 : decode cX10_batch 141 = .ok (.goto 50, 3) := by decide +kernel
theorem dX10_batch_144 : decode cX10_batch 144 = .ok (.iload_n 2, 1) := by decide +kernel
theorem dX10_batch_145 : decode cX10_batch 145 = .ok (.bipush 7, 2) := by decide +kernel
theorem dX10_batch_147 : decode cX10_batch 147 = .ok (.if_icmp .ne 20, 3) := by decide +kernel
theorem dX10_batch_150 : decode cX10_batch 150 = .ok (.aload_n 0, 1) := by decide +kernel
theorem dX10_batch_151 : decode cX10_batch 151 = .ok (.getfield 74, 3) := by decide +kernel
theorem dX10_batch_154 : decode cX10_batch 154 = .ok (.iload_n 1, 1) := by decide +kernel
theorem dX10_batch_155 : decode cX10_batch 155 = .ok (.baload, 1) := by decide +kernel
theorem dX10_batch_156 : decode cX10_batch 156 = .ok (.ifCond .eq 7, 3) := by decide +kernel
theorem dX10_batch_159 : decode cX10_batch 159 = .ok (.iconst 1, 1) := by decide +kernel
theorem dX10_batch_160 : decode cX10_batch 160 = .ok (.goto 31, 3) := by decide +kernel
theorem dX10_batch_163 : decode cX10_batch 163 = .ok (.iconst 0, 1) := by decide +kernel
theorem dX10_batch_164 : decode cX10_batch 164 = .ok (.goto 27, 3) := by decide +kernel
theorem dX10_batch_167 : decode cX10_batch 167 = .ok (.iload_n 2, 1) := by decide +kernel
theorem dX10_batch_168 : decode cX10_batch 168 = .ok (.bipush 8, 2) := by decide +kernel
theorem dX10_batch_170 : decode cX10_batch 170 = .ok (.if_icmp .ne 15, 3) := by decide +kernel
theorem dX10_batch_173 : decode cX10_batch 173 = .ok (.aload_n 0, 1) := by decide +kernel
theorem dX10_batch_174 : decode cX10_batch 174 = .ok (.getfield 86, 3) := by decide +kernel
theorem dX10_batch_177 : decode cX10_batch 177 = .ok (.iload_n 1, 1) := by decide +kernel
theorem dX10_batch_178 : decode cX10_batch 178 = .ok (.laload, 1) := by decide +kernel
theorem dX10_batch_179 : decode cX10_batch 179 = .ok (.invokestatic 314, 3) := by decide +kernel
theorem dX10_batch_182 : decode cX10_batch 182 = .ok (.goto 9, 3) := by decide +kernel
theorem dX10_batch_185 : decode cX10_batch 185 = .ok (.aload_n 0, 1) := by decide +kernel
theorem dX10_batch_186 : decode cX10_batch 186 = .ok (.getfield 83, 3) := by decide +kernel
theorem dX10_batch_189 : decode cX10_batch 189 = .ok (.iload_n 1, 1) := by decide +kernel
theorem dX10_batch_190 : decode cX10_batch 190 = .ok (.iaload, 1) := by decide +kernel
theorem dX10_batch_191 : decode cX10_batch 191 = .ok (.ireturn, 1) := by decide +kernel
theorem dX10_manyOf_0 : decode cX10_manyOf 0 = .ok (.iconst 0, 1) := by decide +kernel
theorem dX10_manyOf_1 : decode cX10_manyOf 1 = .ok (.istore_n 2, 1) := by decide +kernel
theorem dX10_manyOf_2 : decode cX10_manyOf 2 = .ok (.lload_n 0, 1) := by decide +kernel
theorem dX10_manyOf_3 : decode cX10_manyOf 3 = .ok (.lstore_n 3, 1) := by decide +kernel
theorem dX10_manyOf_4 : decode cX10_manyOf 4 = .ok (.lload_n 3, 1) := by decide +kernel
theorem dX10_manyOf_5 : decode cX10_manyOf 5 = .ok (.lconst 0, 1) := by decide +kernel
theorem dX10_manyOf_6 : decode cX10_manyOf 6 = .ok (.lcmp, 1) := by decide +kernel
theorem dX10_manyOf_7 : decode cX10_manyOf 7 = .ok (.ifCond .eq 17, 3) := by decide +kernel
theorem dX10_manyOf_10 : decode cX10_manyOf 10 = .ok (.iload_n 2, 1) := by decide +kernel
theorem dX10_manyOf_11 : decode cX10_manyOf 11 = .ok (.lload_n 3, 1) := by decide +kernel
theorem dX10_manyOf_12 : decode cX10_manyOf 12 = .ok (.lconst 1, 1) := by decide +kernel
theorem dX10_manyOf_13 : decode cX10_manyOf 13 = .ok (.land, 1) := by decide +kernel
theorem dX10_manyOf_14 : decode cX10_manyOf 14 = .ok (.l2i, 1) := by decide +kernel
theorem dX10_manyOf_15 : decode cX10_manyOf 15 = .ok (.iadd, 1) := by decide +kernel
theorem dX10_manyOf_16 : decode cX10_manyOf 16 = .ok (.istore_n 2, 1) := by decide +kernel
theorem dX10_manyOf_17 : decode cX10_manyOf 17 = .ok (.lload_n 3, 1) := by decide +kernel
theorem dX10_manyOf_18 : decode cX10_manyOf 18 = .ok (.iconst 1, 1) := by decide +kernel
theorem dX10_manyOf_19 : decode cX10_manyOf 19 = .ok (.lshr, 1) := by decide +kernel
theorem dX10_manyOf_20 : decode cX10_manyOf 20 = .ok (.lstore_n 3, 1) := by decide +kernel
theorem dX10_manyOf_21 : decode cX10_manyOf 21 = .ok (.goto (-17), 3) := by decide +kernel
theorem dX10_manyOf_24 : decode cX10_manyOf 24 = .ok (.iload_n 2, 1) := by decide +kernel
theorem dX10_manyOf_25 : decode cX10_manyOf 25 = .ok (.ireturn, 1) := by decide +kernel
theorem dX10_ofSet_0 : decode cX10_ofSet 0 = .ok (.iload_n 3, 1) := by decide +kernel
theorem dX10_ofSet_1 : decode cX10_ofSet 1 = .ok (.istore 4, 2) := by decide +kernel
theorem dX10_ofSet_3 : decode cX10_ofSet 3 = .ok (.iconst 0, 1) := by decide +kernel
theorem dX10_ofSet_4 : decode cX10_ofSet 4 = .ok (.istore 5, 2) := by decide +kernel
theorem dX10_ofSet_6 : decode cX10_ofSet 6 = .ok (.iload 5, 2) := by decide +kernel
theorem dX10_ofSet_8 : decode cX10_ofSet 8 = .ok (.aload_n 0, 1) := by decide +kernel
theorem dX10_ofSet_9 : decode cX10_ofSet 9 = .ok (.getfield 176, 3) := by decide +kernel
theorem dX10_ofSet_12 : decode cX10_ofSet 12 = .ok (.if_icmp .ge 31, 3) := by decide +kernel
theorem dX10_ofSet_15 : decode cX10_ofSet 15 = .ok (.lload_n 1, 1) := by decide +kernel
theorem dX10_ofSet_16 : decode cX10_ofSet 16 = .ok (.iload 5, 2) := by decide +kernel
theorem dX10_ofSet_18 : decode cX10_ofSet 18 = .ok (.lshr, 1) := by decide +kernel
theorem dX10_ofSet_19 : decode cX10_ofSet 19 = .ok (.lconst 1, 1) := by decide +kernel
theorem dX10_ofSet_20 : decode cX10_ofSet 20 = .ok (.land, 1) := by decide +kernel
theorem dX10_ofSet_21 : decode cX10_ofSet 21 = .ok (.lconst 1, 1) := by decide +kernel
theorem dX10_ofSet_22 : decode cX10_ofSet 22 = .ok (.lcmp, 1) := by decide +kernel
theorem dX10_ofSet_23 : decode cX10_ofSet 23 = .ok (.ifCond .ne 14, 3) := by decide +kernel
theorem dX10_ofSet_26 : decode cX10_ofSet 26 = .ok (.iload 4, 2) := by decide +kernel
theorem dX10_ofSet_28 : decode cX10_ofSet 28 = .ok (.ifCond .ne 6, 3) := by decide +kernel
theorem dX10_ofSet_31 : decode cX10_ofSet 31 = .ok (.iload 5, 2) := by decide +kernel
theorem dX10_ofSet_33 : decode cX10_ofSet 33 = .ok (.ireturn, 1) := by decide +kernel
theorem dX10_ofSet_34 : decode cX10_ofSet 34 = .ok (.iinc 4 (-1), 3) := by decide +kernel
theorem dX10_ofSet_37 : decode cX10_ofSet 37 = .ok (.iinc 5 1, 3) := by decide +kernel
theorem dX10_ofSet_40 : decode cX10_ofSet 40 = .ok (.goto (-34), 3) := by decide +kernel
theorem dX10_ofSet_43 : decode cX10_ofSet 43 = .ok (.iconst (-1), 1) := by decide +kernel
theorem dX10_ofSet_44 : decode cX10_ofSet 44 = .ok (.ireturn, 1) := by decide +kernel
theorem dX10_asksAt_0 : decode cX10_asksAt 0 = .ok (.aload_n 0, 1) := by decide +kernel
theorem dX10_asksAt_1 : decode cX10_asksAt 1 = .ok (.iload_n 1, 1) := by decide +kernel
theorem dX10_asksAt_2 : decode cX10_asksAt 2 = .ok (.ifCond .ne 7, 3) := by decide +kernel
theorem dX10_asksAt_5 : decode cX10_asksAt 5 = .ok (.iconst 1, 1) := by decide +kernel
theorem dX10_asksAt_6 : decode cX10_asksAt 6 = .ok (.goto 12, 3) := by decide +kernel
theorem dX10_asksAt_9 : decode cX10_asksAt 9 = .ok (.iload_n 2, 1) := by decide +kernel
theorem dX10_asksAt_10 : decode cX10_asksAt 10 = .ok (.ifCond .ge 7, 3) := by decide +kernel
theorem dX10_asksAt_13 : decode cX10_asksAt 13 = .ok (.iconst 2, 1) := by decide +kernel
theorem dX10_asksAt_14 : decode cX10_asksAt 14 = .ok (.goto 4, 3) := by decide +kernel
theorem dX10_asksAt_17 : decode cX10_asksAt 17 = .ok (.iconst 0, 1) := by decide +kernel
theorem dX10_asksAt_18 : decode cX10_asksAt 18 = .ok (.putfield 168, 3) := by decide +kernel
theorem dX10_asksAt_21 : decode cX10_asksAt 21 = .ok (.aload_n 0, 1) := by decide +kernel
theorem dX10_asksAt_22 : decode cX10_asksAt 22 = .ok (.getfield 168, 3) := by decide +kernel
theorem dX10_asksAt_25 : decode cX10_asksAt 25 = .ok (.ifCond .ne 7, 3) := by decide +kernel
theorem dX10_asksAt_28 : decode cX10_asksAt 28 = .ok (.iconst 1, 1) := by decide +kernel
theorem dX10_asksAt_29 : decode cX10_asksAt 29 = .ok (.goto 4, 3) := by decide +kernel
theorem dX10_asksAt_32 : decode cX10_asksAt 32 = .ok (.iconst 0, 1) := by decide +kernel
theorem dX10_asksAt_33 : decode cX10_asksAt 33 = .ok (.ireturn, 1) := by decide +kernel
theorem dX10_parent_0 : decode cX10_parent 0 = .ok (.aload_n 0, 1) := by decide +kernel
theorem dX10_parent_1 : decode cX10_parent 1 = .ok (.aload_n 0, 1) := by decide +kernel
theorem dX10_parent_2 : decode cX10_parent 2 = .ok (.iload_n 1, 1) := by decide +kernel
theorem dX10_parent_3 : decode cX10_parent 3 = .ok (.invokevirtual 219, 3) := by decide +kernel
theorem dX10_parent_6 : decode cX10_parent 6 = .ok (.iload_n 2, 1) := by decide +kernel
theorem dX10_parent_7 : decode cX10_parent 7 = .ok (.invokevirtual 318, 3) := by decide +kernel
theorem dX10_parent_10 : decode cX10_parent 10 = .ok (.ifCond .eq 17, 3) := by decide +kernel
theorem dX10_parent_13 : decode cX10_parent 13 = .ok (.aload_n 0, 1) := by decide +kernel
theorem dX10_parent_14 : decode cX10_parent 14 = .ok (.aload_n 0, 1) := by decide +kernel
theorem dX10_parent_15 : decode cX10_parent 15 = .ok (.getfield 86, 3) := by decide +kernel
theorem dX10_parent_18 : decode cX10_parent 18 = .ok (.iload_n 1, 1) := by decide +kernel
theorem dX10_parent_19 : decode cX10_parent 19 = .ok (.laload, 1) := by decide +kernel
theorem dX10_parent_20 : decode cX10_parent 20 = .ok (.iload_n 2, 1) := by decide +kernel
theorem dX10_parent_21 : decode cX10_parent 21 = .ok (.invokevirtual 322, 3) := by decide +kernel
theorem dX10_parent_24 : decode cX10_parent 24 = .ok (.goto 4, 3) := by decide +kernel
theorem dX10_parent_27 : decode cX10_parent 27 = .ok (.iconst 0, 1) := by decide +kernel
theorem dX10_parent_28 : decode cX10_parent 28 = .ok (.ireturn, 1) := by decide +kernel
theorem dX10_origin_0 : decode cX10_origin 0 = .ok (.aload_n 0, 1) := by decide +kernel
theorem dX10_origin_1 : decode cX10_origin 1 = .ok (.aload_n 0, 1) := by decide +kernel
theorem dX10_origin_2 : decode cX10_origin 2 = .ok (.iload_n 1, 1) := by decide +kernel
theorem dX10_origin_3 : decode cX10_origin 3 = .ok (.invokevirtual 219, 3) := by decide +kernel
theorem dX10_origin_6 : decode cX10_origin 6 = .ok (.iload_n 2, 1) := by decide +kernel
theorem dX10_origin_7 : decode cX10_origin 7 = .ok (.invokevirtual 318, 3) := by decide +kernel
theorem dX10_origin_10 : decode cX10_origin 10 = .ok (.ifCond .ne 5, 3) := by decide +kernel
theorem dX10_origin_13 : decode cX10_origin 13 = .ok (.iconst 0, 1) := by decide +kernel
theorem dX10_origin_14 : decode cX10_origin 14 = .ok (.ireturn, 1) := by decide +kernel
theorem dX10_origin_15 : decode cX10_origin 15 = .ok (.lconst 1, 1) := by decide +kernel
theorem dX10_origin_16 : decode cX10_origin 16 = .ok (.iload_n 1, 1) := by decide +kernel
theorem dX10_origin_17 : decode cX10_origin 17 = .ok (.lshl, 1) := by decide +kernel
theorem dX10_origin_18 : decode cX10_origin 18 = .ok (.lstore_n 3, 1) := by decide +kernel
theorem dX10_origin_19 : decode cX10_origin 19 = .ok (.lconst 0, 1) := by decide +kernel
theorem dX10_origin_20 : decode cX10_origin 20 = .ok (.lstore 5, 2) := by decide +kernel
theorem dX10_origin_22 : decode cX10_origin 22 = .ok (.lload_n 3, 1) := by decide +kernel
theorem dX10_origin_23 : decode cX10_origin 23 = .ok (.lload 5, 2) := by decide +kernel
theorem dX10_origin_25 : decode cX10_origin 25 = .ok (.lcmp, 1) := by decide +kernel
theorem dX10_origin_26 : decode cX10_origin 26 = .ok (.ifCond .eq 53, 3) := by decide +kernel
theorem dX10_origin_29 : decode cX10_origin 29 = .ok (.lload_n 3, 1) := by decide +kernel
theorem dX10_origin_30 : decode cX10_origin 30 = .ok (.lstore 5, 2) := by decide +kernel
theorem dX10_origin_32 : decode cX10_origin 32 = .ok (.iconst 0, 1) := by decide +kernel
theorem dX10_origin_33 : decode cX10_origin 33 = .ok (.istore 7, 2) := by decide +kernel
theorem dX10_origin_35 : decode cX10_origin 35 = .ok (.iload 7, 2) := by decide +kernel
theorem dX10_origin_37 : decode cX10_origin 37 = .ok (.aload_n 0, 1) := by decide +kernel
theorem dX10_origin_38 : decode cX10_origin 38 = .ok (.getfield 176, 3) := by decide +kernel
theorem dX10_origin_41 : decode cX10_origin 41 = .ok (.if_icmp .ge 35, 3) := by decide +kernel
theorem dX10_origin_44 : decode cX10_origin 44 = .ok (.lload_n 3, 1) := by decide +kernel
theorem dX10_origin_45 : decode cX10_origin 45 = .ok (.lload 5, 2) := by decide +kernel
theorem dX10_origin_47 : decode cX10_origin 47 = .ok (.iload 7, 2) := by decide +kernel
theorem dX10_origin_49 : decode cX10_origin 49 = .ok (.lshr, 1) := by decide +kernel
theorem dX10_origin_50 : decode cX10_origin 50 = .ok (.lconst 1, 1) := by decide +kernel
theorem dX10_origin_51 : decode cX10_origin 51 = .ok (.land, 1) := by decide +kernel
theorem dX10_origin_52 : decode cX10_origin 52 = .ok (.lconst 1, 1) := by decide +kernel
theorem dX10_origin_53 : decode cX10_origin 53 = .ok (.lcmp, 1) := by decide +kernel
theorem dX10_origin_54 : decode cX10_origin 54 = .ok (.ifCond .ne 13, 3) := by decide +kernel
theorem dX10_origin_57 : decode cX10_origin 57 = .ok (.aload_n 0, 1) := by decide +kernel
theorem dX10_origin_58 : decode cX10_origin 58 = .ok (.getfield 86, 3) := by decide +kernel
theorem dX10_origin_61 : decode cX10_origin 61 = .ok (.iload 7, 2) := by decide +kernel
theorem dX10_origin_63 : decode cX10_origin 63 = .ok (.laload, 1) := by decide +kernel
theorem dX10_origin_64 : decode cX10_origin 64 = .ok (.goto 4, 3) := by decide +kernel
theorem dX10_origin_67 : decode cX10_origin 67 = .ok (.lconst 0, 1) := by decide +kernel
theorem dX10_origin_68 : decode cX10_origin 68 = .ok (.lor, 1) := by decide +kernel
theorem dX10_origin_69 : decode cX10_origin 69 = .ok (.lstore_n 3, 1) := by decide +kernel
theorem dX10_origin_70 : decode cX10_origin 70 = .ok (.iinc 7 1, 3) := by decide +kernel
theorem dX10_origin_73 : decode cX10_origin 73 = .ok (.goto (-38), 3) := by decide +kernel
theorem dX10_origin_76 : decode cX10_origin 76 = .ok (.goto (-54), 3) := by decide +kernel
theorem dX10_origin_79 : decode cX10_origin 79 = .ok (.lconst 0, 1) := by decide +kernel
theorem dX10_origin_80 : decode cX10_origin 80 = .ok (.lstore 7, 2) := by decide +kernel
theorem dX10_origin_82 : decode cX10_origin 82 = .ok (.iconst 0, 1) := by decide +kernel
theorem dX10_origin_83 : decode cX10_origin 83 = .ok (.istore 9, 2) := by decide +kernel
theorem dX10_origin_85 : decode cX10_origin 85 = .ok (.iload 9, 2) := by decide +kernel
theorem dX10_origin_87 : decode cX10_origin 87 = .ok (.aload_n 0, 1) := by decide +kernel
theorem dX10_origin_88 : decode cX10_origin 88 = .ok (.getfield 176, 3) := by decide +kernel
theorem dX10_origin_91 : decode cX10_origin 91 = .ok (.if_icmp .ge 35, 3) := by decide +kernel
theorem dX10_origin_94 : decode cX10_origin 94 = .ok (.lload 7, 2) := by decide +kernel
theorem dX10_origin_96 : decode cX10_origin 96 = .ok (.aload_n 0, 1) := by decide +kernel
theorem dX10_origin_97 : decode cX10_origin 97 = .ok (.getfield 83, 3) := by decide +kernel
theorem dX10_origin_100 : decode cX10_origin 100 = .ok (.iload 9, 2) := by decide +kernel
theorem dX10_origin_102 : decode cX10_origin 102 = .ok (.iaload, 1) := by decide +kernel
theorem dX10_origin_103 : decode cX10_origin 103 = .ok (.iconst (-1), 1) := by decide +kernel
theorem dX10_origin_104 : decode cX10_origin 104 = .ok (.if_icmp .eq 12, 3) := by decide +kernel
theorem dX10_origin_107 : decode cX10_origin 107 = .ok (.lload_n 3, 1) := by decide +kernel
theorem dX10_origin_108 : decode cX10_origin 108 = .ok (.lconst 1, 1) := by decide +kernel
theorem dX10_origin_109 : decode cX10_origin 109 = .ok (.iload 9, 2) := by decide +kernel
theorem dX10_origin_111 : decode cX10_origin 111 = .ok (.lshl, 1) := by decide +kernel
theorem dX10_origin_112 : decode cX10_origin 112 = .ok (.land, 1) := by decide +kernel
theorem dX10_origin_113 : decode cX10_origin 113 = .ok (.goto 4, 3) := by decide +kernel
theorem dX10_origin_116 : decode cX10_origin 116 = .ok (.lconst 0, 1) := by decide +kernel
theorem dX10_origin_117 : decode cX10_origin 117 = .ok (.lor, 1) := by decide +kernel
theorem dX10_origin_118 : decode cX10_origin 118 = .ok (.lstore 7, 2) := by decide +kernel
theorem dX10_origin_120 : decode cX10_origin 120 = .ok (.iinc 9 1, 3) := by decide +kernel
theorem dX10_origin_123 : decode cX10_origin 123 = .ok (.goto (-38), 3) := by decide +kernel
theorem dX10_origin_126 : decode cX10_origin 126 = .ok (.aload_n 0, 1) := by decide +kernel
theorem dX10_origin_127 : decode cX10_origin 127 = .ok (.lload 7, 2) := by decide +kernel
theorem dX10_origin_129 : decode cX10_origin 129 = .ok (.iload_n 2, 1) := by decide +kernel
theorem dX10_origin_130 : decode cX10_origin 130 = .ok (.invokevirtual 322, 3) := by decide +kernel
theorem dX10_origin_133 : decode cX10_origin 133 = .ok (.ireturn, 1) := by decide +kernel
theorem dX10_machine_0 : decode cX10_machine 0 = .ok (.aload_n 0, 1) := by decide +kernel
theorem dX10_machine_1 : decode cX10_machine 1 = .ok (.iload_n 1, 1) := by decide +kernel
theorem dX10_machine_2 : decode cX10_machine 2 = .ok (.iconst 0, 1) := by decide +kernel
theorem dX10_machine_3 : decode cX10_machine 3 = .ok (.aload_n 0, 1) := by decide +kernel
theorem dX10_machine_4 : decode cX10_machine 4 = .ok (.getfield 183, 3) := by decide +kernel
theorem dX10_machine_7 : decode cX10_machine 7 = .ok (.iconst 1, 1) := by decide +kernel
theorem dX10_machine_8 : decode cX10_machine 8 = .ok (.isub, 1) := by decide +kernel
theorem dX10_machine_9 : decode cX10_machine 9 = .ok (.invokestatic 172, 3) := by decide +kernel
theorem dX10_machine_12 : decode cX10_machine 12 = .ok (.ifCond .ne 7, 3) := by decide +kernel
theorem dX10_machine_15 : decode cX10_machine 15 = .ok (.iconst 1, 1) := by decide +kernel
theorem dX10_machine_16 : decode cX10_machine 16 = .ok (.goto 17, 3) := by decide +kernel
theorem dX10_machine_19 : decode cX10_machine 19 = .ok (.iload_n 2, 1) := by decide +kernel
theorem dX10_machine_20 : decode cX10_machine 20 = .ok (.iconst 0, 1) := by decide +kernel
theorem dX10_machine_21 : decode cX10_machine 21 = .ok (.iconst 5, 1) := by decide +kernel
theorem dX10_machine_22 : decode cX10_machine 22 = .ok (.invokestatic 172, 3) := by decide +kernel
theorem dX10_machine_25 : decode cX10_machine 25 = .ok (.ifCond .ne 7, 3) := by decide +kernel
theorem dX10_machine_28 : decode cX10_machine 28 = .ok (.iconst 2, 1) := by decide +kernel
theorem dX10_machine_29 : decode cX10_machine 29 = .ok (.goto 4, 3) := by decide +kernel
theorem dX10_machine_32 : decode cX10_machine 32 = .ok (.iconst 0, 1) := by decide +kernel
theorem dX10_machine_33 : decode cX10_machine 33 = .ok (.putfield 168, 3) := by decide +kernel
theorem dX10_machine_36 : decode cX10_machine 36 = .ok (.aload_n 0, 1) := by decide +kernel
theorem dX10_machine_37 : decode cX10_machine 37 = .ok (.getfield 168, 3) := by decide +kernel
theorem dX10_machine_40 : decode cX10_machine 40 = .ok (.ifCond .le 5, 3) := by decide +kernel
theorem dX10_machine_43 : decode cX10_machine 43 = .ok (.iconst 0, 1) := by decide +kernel
theorem dX10_machine_44 : decode cX10_machine 44 = .ok (.ireturn, 1) := by decide +kernel
theorem dX10_machine_45 : decode cX10_machine 45 = .ok (.iload_n 2, 1) := by decide +kernel
theorem dX10_machine_46 : decode cX10_machine 46 = .ok (.ifCond .ne 12, 3) := by decide +kernel
theorem dX10_machine_49 : decode cX10_machine 49 = .ok (.aload_n 0, 1) := by decide +kernel
theorem dX10_machine_50 : decode cX10_machine 50 = .ok (.getfield 108, 3) := by decide +kernel
theorem dX10_machine_53 : decode cX10_machine 53 = .ok (.iload_n 1, 1) := by decide +kernel
theorem dX10_machine_54 : decode cX10_machine 54 = .ok (.iaload, 1) := by decide +kernel
theorem dX10_machine_55 : decode cX10_machine 55 = .ok (.goto 65, 3) := by decide +kernel
theorem dX10_machine_58 : decode cX10_machine 58 = .ok (.iload_n 2, 1) := by decide +kernel
theorem dX10_machine_59 : decode cX10_machine 59 = .ok (.iconst 1, 1) := by decide +kernel
theorem dX10_machine_60 : decode cX10_machine 60 = .ok (.if_icmp .ne 12, 3) := by decide +kernel
theorem dX10_machine_63 : decode cX10_machine 63 = .ok (.aload_n 0, 1) := by decide +kernel
theorem dX10_machine_64 : decode cX10_machine 64 = .ok (.getfield 111, 3) := by decide +kernel
theorem dX10_machine_67 : decode cX10_machine 67 = .ok (.iload_n 1, 1) := by decide +kernel
theorem dX10_machine_68 : decode cX10_machine 68 = .ok (.iaload, 1) := by decide +kernel
theorem dX10_machine_69 : decode cX10_machine 69 = .ok (.goto 51, 3) := by decide +kernel
theorem dX10_machine_72 : decode cX10_machine 72 = .ok (.iload_n 2, 1) := by decide +kernel
theorem dX10_machine_73 : decode cX10_machine 73 = .ok (.iconst 2, 1) := by decide +kernel
theorem dX10_machine_74 : decode cX10_machine 74 = .ok (.if_icmp .ne 12, 3) := by decide +kernel
theorem dX10_machine_77 : decode cX10_machine 77 = .ok (.aload_n 0, 1) := by decide +kernel
theorem dX10_machine_78 : decode cX10_machine 78 = .ok (.getfield 114, 3) := by decide +kernel
theorem dX10_machine_81 : decode cX10_machine 81 = .ok (.iload_n 1, 1) := by decide +kernel
theorem dX10_machine_82 : decode cX10_machine 82 = .ok (.iaload, 1) := by decide +kernel
theorem dX10_machine_83 : decode cX10_machine 83 = .ok (.goto 37, 3) := by decide +kernel
theorem dX10_machine_86 : decode cX10_machine 86 = .ok (.iload_n 2, 1) := by decide +kernel
theorem dX10_machine_87 : decode cX10_machine 87 = .ok (.iconst 3, 1) := by decide +kernel
theorem dX10_machine_88 : decode cX10_machine 88 = .ok (.if_icmp .ne 12, 3) := by decide +kernel
theorem dX10_machine_91 : decode cX10_machine 91 = .ok (.aload_n 0, 1) := by decide +kernel
theorem dX10_machine_92 : decode cX10_machine 92 = .ok (.getfield 117, 3) := by decide +kernel
theorem dX10_machine_95 : decode cX10_machine 95 = .ok (.iload_n 1, 1) := by decide +kernel
theorem dX10_machine_96 : decode cX10_machine 96 = .ok (.iaload, 1) := by decide +kernel
theorem dX10_machine_97 : decode cX10_machine 97 = .ok (.goto 23, 3) := by decide +kernel
theorem dX10_machine_100 : decode cX10_machine 100 = .ok (.iload_n 2, 1) := by decide +kernel
theorem dX10_machine_101 : decode cX10_machine 101 = .ok (.iconst 4, 1) := by decide +kernel
theorem dX10_machine_102 : decode cX10_machine 102 = .ok (.if_icmp .ne 12, 3) := by decide +kernel
theorem dX10_machine_105 : decode cX10_machine 105 = .ok (.aload_n 0, 1) := by decide +kernel
theorem dX10_machine_106 : decode cX10_machine 106 = .ok (.getfield 120, 3) := by decide +kernel
theorem dX10_machine_109 : decode cX10_machine 109 = .ok (.iload_n 1, 1) := by decide +kernel
theorem dX10_machine_110 : decode cX10_machine 110 = .ok (.iaload, 1) := by decide +kernel
theorem dX10_machine_111 : decode cX10_machine 111 = .ok (.goto 9, 3) := by decide +kernel
theorem dX10_machine_114 : decode cX10_machine 114 = .ok (.aload_n 0, 1) := by decide +kernel
theorem dX10_machine_115 : decode cX10_machine 115 = .ok (.getfield 123, 3) := by decide +kernel
theorem dX10_machine_118 : decode cX10_machine 118 = .ok (.iload_n 1, 1) := by decide +kernel
theorem dX10_machine_119 : decode cX10_machine 119 = .ok (.iaload, 1) := by decide +kernel
theorem dX10_machine_120 : decode cX10_machine 120 = .ok (.ireturn, 1) := by decide +kernel
theorem dX10_level_0 : decode cX10_level 0 = .ok (.aload_n 0, 1) := by decide +kernel
theorem dX10_level_1 : decode cX10_level 1 = .ok (.aload_n 0, 1) := by decide +kernel
theorem dX10_level_2 : decode cX10_level 2 = .ok (.iload_n 1, 1) := by decide +kernel
theorem dX10_level_3 : decode cX10_level 3 = .ok (.iload_n 2, 1) := by decide +kernel
theorem dX10_level_4 : decode cX10_level 4 = .ok (.invokevirtual 189, 3) := by decide +kernel
theorem dX10_level_7 : decode cX10_level 7 = .ok (.ifCond .eq 7, 3) := by decide +kernel
theorem dX10_level_10 : decode cX10_level 10 = .ok (.iconst 0, 1) := by decide +kernel
theorem dX10_level_11 : decode cX10_level 11 = .ok (.goto 4, 3) := by decide +kernel
theorem dX10_level_14 : decode cX10_level 14 = .ok (.iconst 1, 1) := by decide +kernel
theorem dX10_level_15 : decode cX10_level 15 = .ok (.putfield 168, 3) := by decide +kernel
theorem dX10_level_18 : decode cX10_level 18 = .ok (.aload_n 0, 1) := by decide +kernel
theorem dX10_level_19 : decode cX10_level 19 = .ok (.getfield 168, 3) := by decide +kernel
theorem dX10_level_22 : decode cX10_level 22 = .ok (.ifCond .ne 16, 3) := by decide +kernel
theorem dX10_level_25 : decode cX10_level 25 = .ok (.aload_n 0, 1) := by decide +kernel
theorem dX10_level_26 : decode cX10_level 26 = .ok (.getfield 138, 3) := by decide +kernel
theorem dX10_level_29 : decode cX10_level 29 = .ok (.iconst 4, 1) := by decide +kernel
theorem dX10_level_30 : decode cX10_level 30 = .ok (.iload_n 1, 1) := by decide +kernel
theorem dX10_level_31 : decode cX10_level 31 = .ok (.imul, 1) := by decide +kernel
theorem dX10_level_32 : decode cX10_level 32 = .ok (.iload_n 2, 1) := by decide +kernel
theorem dX10_level_33 : decode cX10_level 33 = .ok (.iadd, 1) := by decide +kernel
theorem dX10_level_34 : decode cX10_level 34 = .ok (.iaload, 1) := by decide +kernel
theorem dX10_level_35 : decode cX10_level 35 = .ok (.goto 4, 3) := by decide +kernel
theorem dX10_level_38 : decode cX10_level 38 = .ok (.iconst 0, 1) := by decide +kernel
theorem dX10_level_39 : decode cX10_level 39 = .ok (.ireturn, 1) := by decide +kernel
theorem dX10_machineOf_0 : decode cX10_machineOf 0 = .ok (.aload_n 0, 1) := by decide +kernel
theorem dX10_machineOf_1 : decode cX10_machineOf 1 = .ok (.iload_n 1, 1) := by decide +kernel
theorem dX10_machineOf_2 : decode cX10_machineOf 2 = .ok (.iconst 0, 1) := by decide +kernel
theorem dX10_machineOf_3 : decode cX10_machineOf 3 = .ok (.aload_n 0, 1) := by decide +kernel
theorem dX10_machineOf_4 : decode cX10_machineOf 4 = .ok (.getfield 186, 3) := by decide +kernel
theorem dX10_machineOf_7 : decode cX10_machineOf 7 = .ok (.iconst 1, 1) := by decide +kernel
theorem dX10_machineOf_8 : decode cX10_machineOf 8 = .ok (.isub, 1) := by decide +kernel
theorem dX10_machineOf_9 : decode cX10_machineOf 9 = .ok (.invokestatic 172, 3) := by decide +kernel
theorem dX10_machineOf_12 : decode cX10_machineOf 12 = .ok (.ifCond .eq 7, 3) := by decide +kernel
theorem dX10_machineOf_15 : decode cX10_machineOf 15 = .ok (.iconst 0, 1) := by decide +kernel
theorem dX10_machineOf_16 : decode cX10_machineOf 16 = .ok (.goto 4, 3) := by decide +kernel
theorem dX10_machineOf_19 : decode cX10_machineOf 19 = .ok (.iconst 1, 1) := by decide +kernel
theorem dX10_machineOf_20 : decode cX10_machineOf 20 = .ok (.putfield 168, 3) := by decide +kernel
theorem dX10_machineOf_23 : decode cX10_machineOf 23 = .ok (.aload_n 0, 1) := by decide +kernel
theorem dX10_machineOf_24 : decode cX10_machineOf 24 = .ok (.getfield 168, 3) := by decide +kernel
theorem dX10_machineOf_27 : decode cX10_machineOf 27 = .ok (.ifCond .ne 11, 3) := by decide +kernel
theorem dX10_machineOf_30 : decode cX10_machineOf 30 = .ok (.aload_n 0, 1) := by decide +kernel
theorem dX10_machineOf_31 : decode cX10_machineOf 31 = .ok (.iload_n 1, 1) := by decide +kernel
theorem dX10_machineOf_32 : decode cX10_machineOf 32 = .ok (.invokevirtual 273, 3) := by decide +kernel
theorem dX10_machineOf_35 : decode cX10_machineOf 35 = .ok (.goto 4, 3) := by decide +kernel
theorem dX10_machineOf_38 : decode cX10_machineOf 38 = .ok (.iconst 0, 1) := by decide +kernel
theorem dX10_machineOf_39 : decode cX10_machineOf 39 = .ok (.ireturn, 1) := by decide +kernel
theorem dX10_store_0 : decode cX10_store 0 = .ok (.aload_n 0, 1) := by decide +kernel
theorem dX10_store_1 : decode cX10_store 1 = .ok (.iload_n 1, 1) := by decide +kernel
theorem dX10_store_2 : decode cX10_store 2 = .ok (.invokestatic 179, 3) := by decide +kernel
theorem dX10_store_5 : decode cX10_store 5 = .ok (.ifCond .ne 7, 3) := by decide +kernel
theorem dX10_store_8 : decode cX10_store 8 = .ok (.iconst 1, 1) := by decide +kernel
theorem dX10_store_9 : decode cX10_store 9 = .ok (.goto 17, 3) := by decide +kernel
theorem dX10_store_12 : decode cX10_store 12 = .ok (.iload_n 2, 1) := by decide +kernel
theorem dX10_store_13 : decode cX10_store 13 = .ok (.iconst 0, 1) := by decide +kernel
theorem dX10_store_14 : decode cX10_store 14 = .ok (.iconst 1, 1) := by decide +kernel
theorem dX10_store_15 : decode cX10_store 15 = .ok (.invokestatic 172, 3) := by decide +kernel
theorem dX10_store_18 : decode cX10_store 18 = .ok (.ifCond .ne 7, 3) := by decide +kernel
theorem dX10_store_21 : decode cX10_store 21 = .ok (.iconst 2, 1) := by decide +kernel
theorem dX10_store_22 : decode cX10_store 22 = .ok (.goto 4, 3) := by decide +kernel
theorem dX10_store_25 : decode cX10_store 25 = .ok (.iconst 0, 1) := by decide +kernel
theorem dX10_store_26 : decode cX10_store 26 = .ok (.putfield 168, 3) := by decide +kernel
theorem dX10_store_29 : decode cX10_store 29 = .ok (.aload_n 0, 1) := by decide +kernel
theorem dX10_store_30 : decode cX10_store 30 = .ok (.getfield 168, 3) := by decide +kernel
theorem dX10_store_33 : decode cX10_store 33 = .ok (.ifCond .le 7, 3) := by decide +kernel
theorem dX10_store_36 : decode cX10_store 36 = .ok (.iconst 0, 1) := by decide +kernel
theorem dX10_store_37 : decode cX10_store 37 = .ok (.goto 20, 3) := by decide +kernel
theorem dX10_store_40 : decode cX10_store 40 = .ok (.iload_n 2, 1) := by decide +kernel
theorem dX10_store_41 : decode cX10_store 41 = .ok (.ifCond .ne 11, 3) := by decide +kernel
theorem dX10_store_44 : decode cX10_store 44 = .ok (.aload_n 0, 1) := by decide +kernel
theorem dX10_store_45 : decode cX10_store 45 = .ok (.iload_n 1, 1) := by decide +kernel
theorem dX10_store_46 : decode cX10_store 46 = .ok (.invokevirtual 206, 3) := by decide +kernel
theorem dX10_store_49 : decode cX10_store 49 = .ok (.goto 8, 3) := by decide +kernel
theorem dX10_store_52 : decode cX10_store 52 = .ok (.aload_n 0, 1) := by decide +kernel
theorem dX10_store_53 : decode cX10_store 53 = .ok (.iload_n 1, 1) := by decide +kernel
theorem dX10_store_54 : decode cX10_store 54 = .ok (.invokevirtual 209, 3) := by decide +kernel
theorem dX10_store_57 : decode cX10_store 57 = .ok (.ireturn, 1) := by decide +kernel
theorem dX10_queue_0 : decode cX10_queue 0 = .ok (.aload_n 0, 1) := by decide +kernel
theorem dX10_queue_1 : decode cX10_queue 1 = .ok (.iload_n 1, 1) := by decide +kernel
theorem dX10_queue_2 : decode cX10_queue 2 = .ok (.iconst 0, 1) := by decide +kernel
theorem dX10_queue_3 : decode cX10_queue 3 = .ok (.iconst 3, 1) := by decide +kernel
theorem dX10_queue_4 : decode cX10_queue 4 = .ok (.invokestatic 172, 3) := by decide +kernel
theorem dX10_queue_7 : decode cX10_queue 7 = .ok (.ifCond .eq 7, 3) := by decide +kernel
theorem dX10_queue_10 : decode cX10_queue 10 = .ok (.iconst 0, 1) := by decide +kernel
theorem dX10_queue_11 : decode cX10_queue 11 = .ok (.goto 4, 3) := by decide +kernel
theorem dX10_queue_14 : decode cX10_queue 14 = .ok (.iconst 1, 1) := by decide +kernel
theorem dX10_queue_15 : decode cX10_queue 15 = .ok (.putfield 168, 3) := by decide +kernel
theorem dX10_queue_18 : decode cX10_queue 18 = .ok (.aload_n 0, 1) := by decide +kernel
theorem dX10_queue_19 : decode cX10_queue 19 = .ok (.getfield 168, 3) := by decide +kernel
theorem dX10_queue_22 : decode cX10_queue 22 = .ok (.ifCond .ne 11, 3) := by decide +kernel
theorem dX10_queue_25 : decode cX10_queue 25 = .ok (.aload_n 0, 1) := by decide +kernel
theorem dX10_queue_26 : decode cX10_queue 26 = .ok (.iload_n 1, 1) := by decide +kernel
theorem dX10_queue_27 : decode cX10_queue 27 = .ok (.invokevirtual 200, 3) := by decide +kernel
theorem dX10_queue_30 : decode cX10_queue 30 = .ok (.goto 4, 3) := by decide +kernel
theorem dX10_queue_33 : decode cX10_queue 33 = .ok (.iconst 0, 1) := by decide +kernel
theorem dX10_queue_34 : decode cX10_queue 34 = .ok (.ireturn, 1) := by decide +kernel
theorem dX10_queued_0 : decode cX10_queued 0 = .ok (.aload_n 0, 1) := by decide +kernel
theorem dX10_queued_1 : decode cX10_queued 1 = .ok (.iload_n 1, 1) := by decide +kernel
theorem dX10_queued_2 : decode cX10_queued 2 = .ok (.iconst 0, 1) := by decide +kernel
theorem dX10_queued_3 : decode cX10_queued 3 = .ok (.iconst 3, 1) := by decide +kernel
theorem dX10_queued_4 : decode cX10_queued 4 = .ok (.invokestatic 172, 3) := by decide +kernel
theorem dX10_queued_7 : decode cX10_queued 7 = .ok (.iload_n 2, 1) := by decide +kernel
theorem dX10_queued_8 : decode cX10_queued 8 = .ok (.invokevirtual 318, 3) := by decide +kernel
theorem dX10_queued_11 : decode cX10_queued 11 = .ok (.ifCond .ne 5, 3) := by decide +kernel
theorem dX10_queued_14 : decode cX10_queued 14 = .ok (.iconst 0, 1) := by decide +kernel
theorem dX10_queued_15 : decode cX10_queued 15 = .ok (.ireturn, 1) := by decide +kernel
theorem dX10_queued_16 : decode cX10_queued 16 = .ok (.iload_n 2, 1) := by decide +kernel
theorem dX10_queued_17 : decode cX10_queued 17 = .ok (.istore_n 3, 1) := by decide +kernel
theorem dX10_queued_18 : decode cX10_queued 18 = .ok (.bipush 9, 2) := by decide +kernel
theorem dX10_queued_20 : decode cX10_queued 20 = .ok (.istore 4, 2) := by decide +kernel
theorem dX10_queued_22 : decode cX10_queued 22 = .ok (.iload 4, 2) := by decide +kernel
theorem dX10_queued_24 : decode cX10_queued 24 = .ok (.ifCond .lt 70, 3) := by decide +kernel
theorem dX10_queued_27 : decode cX10_queued 27 = .ok (.iconst 0, 1) := by decide +kernel
theorem dX10_queued_28 : decode cX10_queued 28 = .ok (.istore 5, 2) := by decide +kernel
theorem dX10_queued_30 : decode cX10_queued 30 = .ok (.iload 5, 2) := by decide +kernel
theorem dX10_queued_32 : decode cX10_queued 32 = .ok (.aload_n 0, 1) := by decide +kernel
theorem dX10_queued_33 : decode cX10_queued 33 = .ok (.getfield 176, 3) := by decide +kernel
theorem dX10_queued_36 : decode cX10_queued 36 = .ok (.if_icmp .ge 52, 3) := by decide +kernel
theorem dX10_queued_39 : decode cX10_queued 39 = .ok (.aload_n 0, 1) := by decide +kernel
theorem dX10_queued_40 : decode cX10_queued 40 = .ok (.getfield 62, 3) := by decide +kernel
theorem dX10_queued_43 : decode cX10_queued 43 = .ok (.iload 5, 2) := by decide +kernel
theorem dX10_queued_45 : decode cX10_queued 45 = .ok (.iaload, 1) := by decide +kernel
theorem dX10_queued_46 : decode cX10_queued 46 = .ok (.iconst 1, 1) := by decide +kernel
theorem dX10_queued_47 : decode cX10_queued 47 = .ok (.if_icmp .ne 35, 3) := by decide +kernel
theorem dX10_queued_50 : decode cX10_queued 50 = .ok (.aload_n 0, 1) := by decide +kernel
theorem dX10_queued_51 : decode cX10_queued 51 = .ok (.iload 5, 2) := by decide +kernel
theorem dX10_queued_53 : decode cX10_queued 53 = .ok (.invokevirtual 196, 3) := by decide +kernel
theorem dX10_queued_56 : decode cX10_queued 56 = .ok (.iload_n 1, 1) := by decide +kernel
theorem dX10_queued_57 : decode cX10_queued 57 = .ok (.if_icmp .ne 25, 3) := by decide +kernel
theorem dX10_queued_60 : decode cX10_queued 60 = .ok (.aload_n 0, 1) := by decide +kernel
theorem dX10_queued_61 : decode cX10_queued 61 = .ok (.getfield 68, 3) := by decide +kernel
theorem dX10_queued_64 : decode cX10_queued 64 = .ok (.iload 5, 2) := by decide +kernel
theorem dX10_queued_66 : decode cX10_queued 66 = .ok (.iaload, 1) := by decide +kernel
theorem dX10_queued_67 : decode cX10_queued 67 = .ok (.iload 4, 2) := by decide +kernel
theorem dX10_queued_69 : decode cX10_queued 69 = .ok (.if_icmp .ne 13, 3) := by decide +kernel
theorem dX10_queued_72 : decode cX10_queued 72 = .ok (.iload_n 3, 1) := by decide +kernel
theorem dX10_queued_73 : decode cX10_queued 73 = .ok (.ifCond .ne 6, 3) := by decide +kernel
theorem dX10_queued_76 : decode cX10_queued 76 = .ok (.iload 5, 2) := by decide +kernel
theorem dX10_queued_78 : decode cX10_queued 78 = .ok (.ireturn, 1) := by decide +kernel
theorem dX10_queued_79 : decode cX10_queued 79 = .ok (.iinc 3 (-1), 3) := by decide +kernel
theorem dX10_queued_82 : decode cX10_queued 82 = .ok (.iinc 5 1, 3) := by decide +kernel
theorem dX10_queued_85 : decode cX10_queued 85 = .ok (.goto (-55), 3) := by decide +kernel
theorem dX10_queued_88 : decode cX10_queued 88 = .ok (.iinc 4 (-1), 3) := by decide +kernel
theorem dX10_queued_91 : decode cX10_queued 91 = .ok (.goto (-69), 3) := by decide +kernel
theorem dX10_queued_94 : decode cX10_queued 94 = .ok (.iconst (-1), 1) := by decide +kernel
theorem dX10_queued_95 : decode cX10_queued 95 = .ok (.ireturn, 1) := by decide +kernel
theorem dX10_told_0 : decode cX10_told 0 = .ok (.aload_n 0, 1) := by decide +kernel
theorem dX10_told_1 : decode cX10_told 1 = .ok (.aload_n 0, 1) := by decide +kernel
theorem dX10_told_2 : decode cX10_told 2 = .ok (.iload_n 1, 1) := by decide +kernel
theorem dX10_told_3 : decode cX10_told 3 = .ok (.invokevirtual 249, 3) := by decide +kernel
theorem dX10_told_6 : decode cX10_told 6 = .ok (.ifCond .ne 7, 3) := by decide +kernel
theorem dX10_told_9 : decode cX10_told 9 = .ok (.iconst 1, 1) := by decide +kernel
theorem dX10_told_10 : decode cX10_told 10 = .ok (.goto 17, 3) := by decide +kernel
theorem dX10_told_13 : decode cX10_told 13 = .ok (.iload_n 2, 1) := by decide +kernel
theorem dX10_told_14 : decode cX10_told 14 = .ok (.iconst 0, 1) := by decide +kernel
theorem dX10_told_15 : decode cX10_told 15 = .ok (.iconst 5, 1) := by decide +kernel
theorem dX10_told_16 : decode cX10_told 16 = .ok (.invokestatic 172, 3) := by decide +kernel
theorem dX10_told_19 : decode cX10_told 19 = .ok (.ifCond .ne 7, 3) := by decide +kernel
theorem dX10_told_22 : decode cX10_told 22 = .ok (.iconst 2, 1) := by decide +kernel
theorem dX10_told_23 : decode cX10_told 23 = .ok (.goto 4, 3) := by decide +kernel
theorem dX10_told_26 : decode cX10_told 26 = .ok (.iconst 0, 1) := by decide +kernel
theorem dX10_told_27 : decode cX10_told 27 = .ok (.putfield 168, 3) := by decide +kernel
theorem dX10_told_30 : decode cX10_told 30 = .ok (.aload_n 0, 1) := by decide +kernel
theorem dX10_told_31 : decode cX10_told 31 = .ok (.getfield 168, 3) := by decide +kernel
theorem dX10_told_34 : decode cX10_told 34 = .ok (.ifCond .le 5, 3) := by decide +kernel
theorem dX10_told_37 : decode cX10_told 37 = .ok (.iconst 0, 1) := by decide +kernel
theorem dX10_told_38 : decode cX10_told 38 = .ok (.ireturn, 1) := by decide +kernel
theorem dX10_told_39 : decode cX10_told 39 = .ok (.aload_n 0, 1) := by decide +kernel
theorem dX10_told_40 : decode cX10_told 40 = .ok (.getfield 156, 3) := by decide +kernel
theorem dX10_told_43 : decode cX10_told 43 = .ok (.iload_n 1, 1) := by decide +kernel
theorem dX10_told_44 : decode cX10_told 44 = .ok (.iaload, 1) := by decide +kernel
theorem dX10_told_45 : decode cX10_told 45 = .ok (.iconst (-1), 1) := by decide +kernel
theorem dX10_told_46 : decode cX10_told 46 = .ok (.if_icmp .ne 10, 3) := by decide +kernel
theorem dX10_told_49 : decode cX10_told 49 = .ok (.aload_n 0, 1) := by decide +kernel
theorem dX10_told_50 : decode cX10_told 50 = .ok (.getfield 193, 3) := by decide +kernel
theorem dX10_told_53 : decode cX10_told 53 = .ok (.goto 9, 3) := by decide +kernel
theorem dX10_told_56 : decode cX10_told 56 = .ok (.aload_n 0, 1) := by decide +kernel
theorem dX10_told_57 : decode cX10_told 57 = .ok (.getfield 159, 3) := by decide +kernel
theorem dX10_told_60 : decode cX10_told 60 = .ok (.iload_n 1, 1) := by decide +kernel
theorem dX10_told_61 : decode cX10_told 61 = .ok (.iaload, 1) := by decide +kernel
theorem dX10_told_62 : decode cX10_told 62 = .ok (.aload_n 0, 1) := by decide +kernel
theorem dX10_told_63 : decode cX10_told 63 = .ok (.getfield 150, 3) := by decide +kernel
theorem dX10_told_66 : decode cX10_told 66 = .ok (.iload_n 1, 1) := by decide +kernel
theorem dX10_told_67 : decode cX10_told 67 = .ok (.iaload, 1) := by decide +kernel
theorem dX10_told_68 : decode cX10_told 68 = .ok (.isub, 1) := by decide +kernel
theorem dX10_told_69 : decode cX10_told 69 = .ok (.istore_n 3, 1) := by decide +kernel
theorem dX10_told_70 : decode cX10_told 70 = .ok (.iload_n 2, 1) := by decide +kernel
theorem dX10_told_71 : decode cX10_told 71 = .ok (.ifCond .ne 12, 3) := by decide +kernel
theorem dX10_told_74 : decode cX10_told 74 = .ok (.aload_n 0, 1) := by decide +kernel
theorem dX10_told_75 : decode cX10_told 75 = .ok (.getfield 144, 3) := by decide +kernel
theorem dX10_told_78 : decode cX10_told 78 = .ok (.iload_n 1, 1) := by decide +kernel
theorem dX10_told_79 : decode cX10_told 79 = .ok (.iaload, 1) := by decide +kernel
theorem dX10_told_80 : decode cX10_told 80 = .ok (.goto 68, 3) := by decide +kernel
theorem dX10_told_83 : decode cX10_told 83 = .ok (.iload_n 2, 1) := by decide +kernel
theorem dX10_told_84 : decode cX10_told 84 = .ok (.iconst 1, 1) := by decide +kernel
theorem dX10_told_85 : decode cX10_told 85 = .ok (.if_icmp .ne 12, 3) := by decide +kernel
theorem dX10_told_88 : decode cX10_told 88 = .ok (.aload_n 0, 1) := by decide +kernel
theorem dX10_told_89 : decode cX10_told 89 = .ok (.getfield 147, 3) := by decide +kernel
theorem dX10_told_92 : decode cX10_told 92 = .ok (.iload_n 1, 1) := by decide +kernel
theorem dX10_told_93 : decode cX10_told 93 = .ok (.iaload, 1) := by decide +kernel
theorem dX10_told_94 : decode cX10_told 94 = .ok (.goto 54, 3) := by decide +kernel
theorem dX10_told_97 : decode cX10_told 97 = .ok (.iload_n 2, 1) := by decide +kernel
theorem dX10_told_98 : decode cX10_told 98 = .ok (.iconst 2, 1) := by decide +kernel
theorem dX10_told_99 : decode cX10_told 99 = .ok (.if_icmp .ne 12, 3) := by decide +kernel
theorem dX10_told_102 : decode cX10_told 102 = .ok (.aload_n 0, 1) := by decide +kernel
theorem dX10_told_103 : decode cX10_told 103 = .ok (.getfield 150, 3) := by decide +kernel
theorem dX10_told_106 : decode cX10_told 106 = .ok (.iload_n 1, 1) := by decide +kernel
theorem dX10_told_107 : decode cX10_told 107 = .ok (.iaload, 1) := by decide +kernel
theorem dX10_told_108 : decode cX10_told 108 = .ok (.goto 40, 3) := by decide +kernel
theorem dX10_told_111 : decode cX10_told 111 = .ok (.iload_n 2, 1) := by decide +kernel
theorem dX10_told_112 : decode cX10_told 112 = .ok (.iconst 3, 1) := by decide +kernel
theorem dX10_told_113 : decode cX10_told 113 = .ok (.if_icmp .ne 12, 3) := by decide +kernel
theorem dX10_told_116 : decode cX10_told 116 = .ok (.aload_n 0, 1) := by decide +kernel
theorem dX10_told_117 : decode cX10_told 117 = .ok (.getfield 153, 3) := by decide +kernel
theorem dX10_told_120 : decode cX10_told 120 = .ok (.iload_n 1, 1) := by decide +kernel
theorem dX10_told_121 : decode cX10_told 121 = .ok (.iaload, 1) := by decide +kernel
theorem dX10_told_122 : decode cX10_told 122 = .ok (.goto 26, 3) := by decide +kernel
theorem dX10_told_125 : decode cX10_told 125 = .ok (.iload_n 2, 1) := by decide +kernel
theorem dX10_told_126 : decode cX10_told 126 = .ok (.iconst 4, 1) := by decide +kernel
theorem dX10_told_127 : decode cX10_told 127 = .ok (.if_icmp .ne 12, 3) := by decide +kernel
theorem dX10_told_130 : decode cX10_told 130 = .ok (.aload_n 0, 1) := by decide +kernel
theorem dX10_told_131 : decode cX10_told 131 = .ok (.getfield 156, 3) := by decide +kernel
theorem dX10_told_134 : decode cX10_told 134 = .ok (.iload_n 1, 1) := by decide +kernel
theorem dX10_told_135 : decode cX10_told 135 = .ok (.iaload, 1) := by decide +kernel
theorem dX10_told_136 : decode cX10_told 136 = .ok (.goto 12, 3) := by decide +kernel
theorem dX10_told_139 : decode cX10_told 139 = .ok (.iload_n 3, 1) := by decide +kernel
theorem dX10_told_140 : decode cX10_told 140 = .ok (.ifCond .ge 7, 3) := by decide +kernel
theorem dX10_told_143 : decode cX10_told 143 = .ok (.iconst 0, 1) := by decide +kernel
theorem dX10_told_144 : decode cX10_told 144 = .ok (.goto 4, 3) := by decide +kernel
theorem dX10_told_147 : decode cX10_told 147 = .ok (.iload_n 3, 1) := by decide +kernel
theorem dX10_told_148 : decode cX10_told 148 = .ok (.ireturn, 1) := by decide +kernel
theorem dX10_why_0 : decode cX10_why 0 = .ok (.aload_n 0, 1) := by decide +kernel
theorem dX10_why_1 : decode cX10_why 1 = .ok (.aload_n 0, 1) := by decide +kernel
theorem dX10_why_2 : decode cX10_why 2 = .ok (.iload_n 1, 1) := by decide +kernel
theorem dX10_why_3 : decode cX10_why 3 = .ok (.invokevirtual 219, 3) := by decide +kernel
theorem dX10_why_6 : decode cX10_why 6 = .ok (.ifCond .eq 21, 3) := by decide +kernel
theorem dX10_why_9 : decode cX10_why 9 = .ok (.iload_n 2, 1) := by decide +kernel
theorem dX10_why_10 : decode cX10_why 10 = .ok (.iconst 0, 1) := by decide +kernel
theorem dX10_why_11 : decode cX10_why 11 = .ok (.aload_n 0, 1) := by decide +kernel
theorem dX10_why_12 : decode cX10_why 12 = .ok (.getfield 183, 3) := by decide +kernel
theorem dX10_why_15 : decode cX10_why 15 = .ok (.iconst 1, 1) := by decide +kernel
theorem dX10_why_16 : decode cX10_why 16 = .ok (.isub, 1) := by decide +kernel
theorem dX10_why_17 : decode cX10_why 17 = .ok (.invokestatic 172, 3) := by decide +kernel
theorem dX10_why_20 : decode cX10_why 20 = .ok (.ifCond .eq 7, 3) := by decide +kernel
theorem dX10_why_23 : decode cX10_why 23 = .ok (.iconst 0, 1) := by decide +kernel
theorem dX10_why_24 : decode cX10_why 24 = .ok (.goto 4, 3) := by decide +kernel
theorem dX10_why_27 : decode cX10_why 27 = .ok (.iconst 1, 1) := by decide +kernel
theorem dX10_why_28 : decode cX10_why 28 = .ok (.putfield 168, 3) := by decide +kernel
theorem dX10_why_31 : decode cX10_why 31 = .ok (.aload_n 0, 1) := by decide +kernel
theorem dX10_why_32 : decode cX10_why 32 = .ok (.getfield 168, 3) := by decide +kernel
theorem dX10_why_35 : decode cX10_why 35 = .ok (.ifCond .le 5, 3) := by decide +kernel
theorem dX10_why_38 : decode cX10_why 38 = .ok (.iconst 0, 1) := by decide +kernel
theorem dX10_why_39 : decode cX10_why 39 = .ok (.ireturn, 1) := by decide +kernel
theorem dX10_why_40 : decode cX10_why 40 = .ok (.aload_n 0, 1) := by decide +kernel
theorem dX10_why_41 : decode cX10_why 41 = .ok (.getfield 62, 3) := by decide +kernel
theorem dX10_why_44 : decode cX10_why 44 = .ok (.iload_n 1, 1) := by decide +kernel
theorem dX10_why_45 : decode cX10_why 45 = .ok (.iaload, 1) := by decide +kernel
theorem dX10_why_46 : decode cX10_why 46 = .ok (.iconst 1, 1) := by decide +kernel
theorem dX10_why_47 : decode cX10_why 47 = .ok (.if_icmp .ne 12, 3) := by decide +kernel
theorem dX10_why_50 : decode cX10_why 50 = .ok (.aload_n 0, 1) := by decide +kernel
theorem dX10_why_51 : decode cX10_why 51 = .ok (.getfield 71, 3) := by decide +kernel
theorem dX10_why_54 : decode cX10_why 54 = .ok (.iload_n 1, 1) := by decide +kernel
theorem dX10_why_55 : decode cX10_why 55 = .ok (.baload, 1) := by decide +kernel
theorem dX10_why_56 : decode cX10_why 56 = .ok (.ifCond .eq 19, 3) := by decide +kernel
theorem dX10_why_59 : decode cX10_why 59 = .ok (.aload_n 0, 1) := by decide +kernel
theorem dX10_why_60 : decode cX10_why 60 = .ok (.getfield 62, 3) := by decide +kernel
theorem dX10_why_63 : decode cX10_why 63 = .ok (.iload_n 1, 1) := by decide +kernel
theorem dX10_why_64 : decode cX10_why 64 = .ok (.iaload, 1) := by decide +kernel
theorem dX10_why_65 : decode cX10_why 65 = .ok (.iconst 1, 1) := by decide +kernel
theorem dX10_why_66 : decode cX10_why 66 = .ok (.if_icmp .eq 7, 3) := by decide +kernel
theorem dX10_why_69 : decode cX10_why 69 = .ok (.iconst 1, 1) := by decide +kernel
theorem dX10_why_70 : decode cX10_why 70 = .ok (.goto 4, 3) := by decide +kernel
theorem dX10_why_73 : decode cX10_why 73 = .ok (.iconst 2, 1) := by decide +kernel
theorem dX10_why_74 : decode cX10_why 74 = .ok (.ireturn, 1) := by decide +kernel
theorem dX10_why_75 : decode cX10_why 75 = .ok (.aload_n 0, 1) := by decide +kernel
theorem dX10_why_76 : decode cX10_why 76 = .ok (.iload_n 2, 1) := by decide +kernel
theorem dX10_why_77 : decode cX10_why 77 = .ok (.iload_n 1, 1) := by decide +kernel
theorem dX10_why_78 : decode cX10_why 78 = .ok (.invokevirtual 288, 3) := by decide +kernel
theorem dX10_why_81 : decode cX10_why 81 = .ok (.ifCond .eq 22, 3) := by decide +kernel
theorem dX10_why_84 : decode cX10_why 84 = .ok (.aload_n 0, 1) := by decide +kernel
theorem dX10_why_85 : decode cX10_why 85 = .ok (.getfield 108, 3) := by decide +kernel
theorem dX10_why_88 : decode cX10_why 88 = .ok (.iload_n 2, 1) := by decide +kernel
theorem dX10_why_89 : decode cX10_why 89 = .ok (.iaload, 1) := by decide +kernel
theorem dX10_why_90 : decode cX10_why 90 = .ok (.iconst (-1), 1) := by decide +kernel
theorem dX10_why_91 : decode cX10_why 91 = .ok (.if_icmp .ne 12, 3) := by decide +kernel
theorem dX10_why_94 : decode cX10_why 94 = .ok (.aload_n 0, 1) := by decide +kernel
theorem dX10_why_95 : decode cX10_why 95 = .ok (.getfield 123, 3) := by decide +kernel
theorem dX10_why_98 : decode cX10_why 98 = .ok (.iload_n 2, 1) := by decide +kernel
theorem dX10_why_99 : decode cX10_why 99 = .ok (.iaload, 1) := by decide +kernel
theorem dX10_why_100 : decode cX10_why 100 = .ok (.ifCond .le 18, 3) := by decide +kernel
theorem dX10_why_103 : decode cX10_why 103 = .ok (.aload_n 0, 1) := by decide +kernel
theorem dX10_why_104 : decode cX10_why 104 = .ok (.iload_n 2, 1) := by decide +kernel
theorem dX10_why_105 : decode cX10_why 105 = .ok (.iload_n 1, 1) := by decide +kernel
theorem dX10_why_106 : decode cX10_why 106 = .ok (.invokevirtual 288, 3) := by decide +kernel
theorem dX10_why_109 : decode cX10_why 109 = .ok (.ifCond .ne 7, 3) := by decide +kernel
theorem dX10_why_112 : decode cX10_why 112 = .ok (.iconst 3, 1) := by decide +kernel
theorem dX10_why_113 : decode cX10_why 113 = .ok (.goto 4, 3) := by decide +kernel
theorem dX10_why_116 : decode cX10_why 116 = .ok (.iconst 4, 1) := by decide +kernel
theorem dX10_why_117 : decode cX10_why 117 = .ok (.ireturn, 1) := by decide +kernel
theorem dX10_why_118 : decode cX10_why 118 = .ok (.aload_n 0, 1) := by decide +kernel
theorem dX10_why_119 : decode cX10_why 119 = .ok (.iload_n 1, 1) := by decide +kernel
theorem dX10_why_120 : decode cX10_why 120 = .ok (.invokevirtual 279, 3) := by decide +kernel
theorem dX10_why_123 : decode cX10_why 123 = .ok (.iconst (-1), 1) := by decide +kernel
theorem dX10_why_124 : decode cX10_why 124 = .ok (.if_icmp .ne 7, 3) := by decide +kernel
theorem dX10_why_127 : decode cX10_why 127 = .ok (.iconst 5, 1) := by decide +kernel
theorem dX10_why_128 : decode cX10_why 128 = .ok (.goto 25, 3) := by decide +kernel
theorem dX10_why_131 : decode cX10_why 131 = .ok (.aload_n 0, 1) := by decide +kernel
theorem dX10_why_132 : decode cX10_why 132 = .ok (.iload_n 1, 1) := by decide +kernel
theorem dX10_why_133 : decode cX10_why 133 = .ok (.invokevirtual 282, 3) := by decide +kernel
theorem dX10_why_136 : decode cX10_why 136 = .ok (.ifCond .eq 16, 3) := by decide +kernel
theorem dX10_why_139 : decode cX10_why 139 = .ok (.aload_n 0, 1) := by decide +kernel
theorem dX10_why_140 : decode cX10_why 140 = .ok (.iload_n 1, 1) := by decide +kernel
theorem dX10_why_141 : decode cX10_why 141 = .ok (.invokevirtual 285, 3) := by decide +kernel
theorem dX10_why_144 : decode cX10_why 144 = .ok (.ifCond .ne 8, 3) := by decide +kernel
theorem dX10_why_147 : decode cX10_why 147 = .ok (.bipush 6, 2) := by decide +kernel
theorem dX10_why_149 : decode cX10_why 149 = .ok (.goto 4, 3) := by decide +kernel
theorem dX10_why_152 : decode cX10_why 152 = .ok (.iconst 0, 1) := by decide +kernel
theorem dX10_why_153 : decode cX10_why 153 = .ok (.ireturn, 1) := by decide +kernel
theorem dX10_hoursOf_0 : decode cX10_hoursOf 0 = .ok (.iconst 0, 1) := by decide +kernel
theorem dX10_hoursOf_1 : decode cX10_hoursOf 1 = .ok (.istore_n 2, 1) := by decide +kernel
theorem dX10_hoursOf_2 : decode cX10_hoursOf 2 = .ok (.iload_n 2, 1) := by decide +kernel
theorem dX10_hoursOf_3 : decode cX10_hoursOf 3 = .ok (.iload_n 1, 1) := by decide +kernel
theorem dX10_hoursOf_4 : decode cX10_hoursOf 4 = .ok (.if_icmp .gt 171, 3) := by decide +kernel
theorem dX10_hoursOf_7 : decode cX10_hoursOf 7 = .ok (.iconst 0, 1) := by decide +kernel
theorem dX10_hoursOf_8 : decode cX10_hoursOf 8 = .ok (.istore_n 3, 1) := by decide +kernel
theorem dX10_hoursOf_9 : decode cX10_hoursOf 9 = .ok (.aload_n 0, 1) := by decide +kernel
theorem dX10_hoursOf_10 : decode cX10_hoursOf 10 = .ok (.getfield 7, 3) := by decide +kernel
theorem dX10_hoursOf_13 : decode cX10_hoursOf 13 = .ok (.iload_n 2, 1) := by decide +kernel
theorem dX10_hoursOf_14 : decode cX10_hoursOf 14 = .ok (.iaload, 1) := by decide +kernel
theorem dX10_hoursOf_15 : decode cX10_hoursOf 15 = .ok (.ifCond .le 7, 3) := by decide +kernel
theorem dX10_hoursOf_18 : decode cX10_hoursOf 18 = .ok (.iconst 1, 1) := by decide +kernel
theorem dX10_hoursOf_19 : decode cX10_hoursOf 19 = .ok (.goto 4, 3) := by decide +kernel
theorem dX10_hoursOf_22 : decode cX10_hoursOf 22 = .ok (.iconst 0, 1) := by decide +kernel
theorem dX10_hoursOf_23 : decode cX10_hoursOf 23 = .ok (.istore 4, 2) := by decide +kernel
theorem dX10_hoursOf_25 : decode cX10_hoursOf 25 = .ok (.iconst 0, 1) := by decide +kernel
theorem dX10_hoursOf_26 : decode cX10_hoursOf 26 = .ok (.istore 5, 2) := by decide +kernel
theorem dX10_hoursOf_28 : decode cX10_hoursOf 28 = .ok (.iload 5, 2) := by decide +kernel
theorem dX10_hoursOf_30 : decode cX10_hoursOf 30 = .ok (.aload_n 0, 1) := by decide +kernel
theorem dX10_hoursOf_31 : decode cX10_hoursOf 31 = .ok (.getfield 19, 3) := by decide +kernel
theorem dX10_hoursOf_34 : decode cX10_hoursOf 34 = .ok (.iload_n 2, 1) := by decide +kernel
theorem dX10_hoursOf_35 : decode cX10_hoursOf 35 = .ok (.iaload, 1) := by decide +kernel
theorem dX10_hoursOf_36 : decode cX10_hoursOf 36 = .ok (.if_icmp .ge 58, 3) := by decide +kernel
theorem dX10_hoursOf_39 : decode cX10_hoursOf 39 = .ok (.aload_n 0, 1) := by decide +kernel
theorem dX10_hoursOf_40 : decode cX10_hoursOf 40 = .ok (.getfield 165, 3) := by decide +kernel
theorem dX10_hoursOf_43 : decode cX10_hoursOf 43 = .ok (.aload_n 0, 1) := by decide +kernel
theorem dX10_hoursOf_44 : decode cX10_hoursOf 44 = .ok (.getfield 22, 3) := by decide +kernel
theorem dX10_hoursOf_47 : decode cX10_hoursOf 47 = .ok (.iconst 3, 1) := by decide +kernel
theorem dX10_hoursOf_48 : decode cX10_hoursOf 48 = .ok (.iload_n 2, 1) := by decide +kernel
theorem dX10_hoursOf_49 : decode cX10_hoursOf 49 = .ok (.imul, 1) := by decide +kernel
theorem dX10_hoursOf_50 : decode cX10_hoursOf 50 = .ok (.iload 5, 2) := by decide +kernel
theorem dX10_hoursOf_52 : decode cX10_hoursOf 52 = .ok (.iadd, 1) := by decide +kernel
theorem dX10_hoursOf_53 : decode cX10_hoursOf 53 = .ok (.iaload, 1) := by decide +kernel
theorem dX10_hoursOf_54 : decode cX10_hoursOf 54 = .ok (.iaload, 1) := by decide +kernel
theorem dX10_hoursOf_55 : decode cX10_hoursOf 55 = .ok (.istore 6, 2) := by decide +kernel
theorem dX10_hoursOf_57 : decode cX10_hoursOf 57 = .ok (.iload 4, 2) := by decide +kernel
theorem dX10_hoursOf_59 : decode cX10_hoursOf 59 = .ok (.ifCond .eq 13, 3) := by decide +kernel
theorem dX10_hoursOf_62 : decode cX10_hoursOf 62 = .ok (.iload 6, 2) := by decide +kernel
theorem dX10_hoursOf_64 : decode cX10_hoursOf 64 = .ok (.iconst (-1), 1) := by decide +kernel
theorem dX10_hoursOf_65 : decode cX10_hoursOf 65 = .ok (.if_icmp .eq 7, 3) := by decide +kernel
theorem dX10_hoursOf_68 : decode cX10_hoursOf 68 = .ok (.iconst 1, 1) := by decide +kernel
theorem dX10_hoursOf_69 : decode cX10_hoursOf 69 = .ok (.goto 4, 3) := by decide +kernel
theorem dX10_hoursOf_72 : decode cX10_hoursOf 72 = .ok (.iconst 0, 1) := by decide +kernel
theorem dX10_hoursOf_73 : decode cX10_hoursOf 73 = .ok (.istore 4, 2) := by decide +kernel
theorem dX10_hoursOf_75 : decode cX10_hoursOf 75 = .ok (.iload 6, 2) := by decide +kernel
theorem dX10_hoursOf_77 : decode cX10_hoursOf 77 = .ok (.iload_n 3, 1) := by decide +kernel
theorem dX10_hoursOf_78 : decode cX10_hoursOf 78 = .ok (.if_icmp .le 8, 3) := by decide +kernel
theorem dX10_hoursOf_81 : decode cX10_hoursOf 81 = .ok (.iload 6, 2) := by decide +kernel
theorem dX10_hoursOf_83 : decode cX10_hoursOf 83 = .ok (.goto 4, 3) := by decide +kernel
theorem dX10_hoursOf_86 : decode cX10_hoursOf 86 = .ok (.iload_n 3, 1) := by decide +kernel
theorem dX10_hoursOf_87 : decode cX10_hoursOf 87 = .ok (.istore_n 3, 1) := by decide +kernel
theorem dX10_hoursOf_88 : decode cX10_hoursOf 88 = .ok (.iinc 5 1, 3) := by decide +kernel
theorem dX10_hoursOf_91 : decode cX10_hoursOf 91 = .ok (.goto (-63), 3) := by decide +kernel
theorem dX10_hoursOf_94 : decode cX10_hoursOf 94 = .ok (.aload_n 0, 1) := by decide +kernel
theorem dX10_hoursOf_95 : decode cX10_hoursOf 95 = .ok (.getfield 7, 3) := by decide +kernel
theorem dX10_hoursOf_98 : decode cX10_hoursOf 98 = .ok (.iload_n 2, 1) := by decide +kernel
theorem dX10_hoursOf_99 : decode cX10_hoursOf 99 = .ok (.iaload, 1) := by decide +kernel
theorem dX10_hoursOf_100 : decode cX10_hoursOf 100 = .ok (.iconst 1, 1) := by decide +kernel
theorem dX10_hoursOf_101 : decode cX10_hoursOf 101 = .ok (.if_icmp .ne 12, 3) := by decide +kernel
theorem dX10_hoursOf_104 : decode cX10_hoursOf 104 = .ok (.aload_n 0, 1) := by decide +kernel
theorem dX10_hoursOf_105 : decode cX10_hoursOf 105 = .ok (.getfield 16, 3) := by decide +kernel
theorem dX10_hoursOf_108 : decode cX10_hoursOf 108 = .ok (.iload_n 2, 1) := by decide +kernel
theorem dX10_hoursOf_109 : decode cX10_hoursOf 109 = .ok (.iaload, 1) := by decide +kernel
theorem dX10_hoursOf_110 : decode cX10_hoursOf 110 = .ok (.goto 4, 3) := by decide +kernel
theorem dX10_hoursOf_113 : decode cX10_hoursOf 113 = .ok (.iload_n 3, 1) := by decide +kernel
theorem dX10_hoursOf_114 : decode cX10_hoursOf 114 = .ok (.istore 5, 2) := by decide +kernel
theorem dX10_hoursOf_116 : decode cX10_hoursOf 116 = .ok (.iconst 0, 1) := by decide +kernel
theorem dX10_hoursOf_117 : decode cX10_hoursOf 117 = .ok (.istore 6, 2) := by decide +kernel
theorem dX10_hoursOf_119 : decode cX10_hoursOf 119 = .ok (.iload 6, 2) := by decide +kernel
theorem dX10_hoursOf_121 : decode cX10_hoursOf 121 = .ok (.aload_n 0, 1) := by decide +kernel
theorem dX10_hoursOf_122 : decode cX10_hoursOf 122 = .ok (.getfield 31, 3) := by decide +kernel
theorem dX10_hoursOf_125 : decode cX10_hoursOf 125 = .ok (.iload_n 2, 1) := by decide +kernel
theorem dX10_hoursOf_126 : decode cX10_hoursOf 126 = .ok (.iaload, 1) := by decide +kernel
theorem dX10_hoursOf_127 : decode cX10_hoursOf 127 = .ok (.if_icmp .ge 25, 3) := by decide +kernel
theorem dX10_hoursOf_130 : decode cX10_hoursOf 130 = .ok (.iload 5, 2) := by decide +kernel
theorem dX10_hoursOf_132 : decode cX10_hoursOf 132 = .ok (.aload_n 0, 1) := by decide +kernel
theorem dX10_hoursOf_133 : decode cX10_hoursOf 133 = .ok (.getfield 40, 3) := by decide +kernel
theorem dX10_hoursOf_136 : decode cX10_hoursOf 136 = .ok (.iconst 4, 1) := by decide +kernel
theorem dX10_hoursOf_137 : decode cX10_hoursOf 137 = .ok (.iload_n 2, 1) := by decide +kernel
theorem dX10_hoursOf_138 : decode cX10_hoursOf 138 = .ok (.imul, 1) := by decide +kernel
theorem dX10_hoursOf_139 : decode cX10_hoursOf 139 = .ok (.iload 6, 2) := by decide +kernel
theorem dX10_hoursOf_141 : decode cX10_hoursOf 141 = .ok (.iadd, 1) := by decide +kernel
theorem dX10_hoursOf_142 : decode cX10_hoursOf 142 = .ok (.iaload, 1) := by decide +kernel
theorem dX10_hoursOf_143 : decode cX10_hoursOf 143 = .ok (.iadd, 1) := by decide +kernel
theorem dX10_hoursOf_144 : decode cX10_hoursOf 144 = .ok (.istore 5, 2) := by decide +kernel
theorem dX10_hoursOf_146 : decode cX10_hoursOf 146 = .ok (.iinc 6 1, 3) := by decide +kernel
theorem dX10_hoursOf_149 : decode cX10_hoursOf 149 = .ok (.goto (-30), 3) := by decide +kernel
theorem dX10_hoursOf_152 : decode cX10_hoursOf 152 = .ok (.aload_n 0, 1) := by decide +kernel
theorem dX10_hoursOf_153 : decode cX10_hoursOf 153 = .ok (.getfield 165, 3) := by decide +kernel
theorem dX10_hoursOf_156 : decode cX10_hoursOf 156 = .ok (.iload_n 2, 1) := by decide +kernel
theorem dX10_hoursOf_157 : decode cX10_hoursOf 157 = .ok (.iload 4, 2) := by decide +kernel
theorem dX10_hoursOf_159 : decode cX10_hoursOf 159 = .ok (.ifCond .eq 8, 3) := by decide +kernel
theorem dX10_hoursOf_162 : decode cX10_hoursOf 162 = .ok (.iload 5, 2) := by decide +kernel
theorem dX10_hoursOf_164 : decode cX10_hoursOf 164 = .ok (.goto 4, 3) := by decide +kernel
theorem dX10_hoursOf_167 : decode cX10_hoursOf 167 = .ok (.iconst (-1), 1) := by decide +kernel
theorem dX10_hoursOf_168 : decode cX10_hoursOf 168 = .ok (.iastore, 1) := by decide +kernel
theorem dX10_hoursOf_169 : decode cX10_hoursOf 169 = .ok (.iinc 2 1, 3) := by decide +kernel
theorem dX10_hoursOf_172 : decode cX10_hoursOf 172 = .ok (.goto (-170), 3) := by decide +kernel
theorem dX10_hoursOf_175 : decode cX10_hoursOf 175 = .ok (.aload_n 0, 1) := by decide +kernel
theorem dX10_hoursOf_176 : decode cX10_hoursOf 176 = .ok (.getfield 165, 3) := by decide +kernel
theorem dX10_hoursOf_179 : decode cX10_hoursOf 179 = .ok (.iload_n 1, 1) := by decide +kernel
theorem dX10_hoursOf_180 : decode cX10_hoursOf 180 = .ok (.iaload, 1) := by decide +kernel
theorem dX10_hoursOf_181 : decode cX10_hoursOf 181 = .ok (.ireturn, 1) := by decide +kernel
theorem dX10_latest_0 : decode cX10_latest 0 = .ok (.aload_n 0, 1) := by decide +kernel
theorem dX10_latest_1 : decode cX10_latest 1 = .ok (.iload_n 1, 1) := by decide +kernel
theorem dX10_latest_2 : decode cX10_latest 2 = .ok (.invokestatic 179, 3) := by decide +kernel
theorem dX10_latest_5 : decode cX10_latest 5 = .ok (.ifCond .ne 7, 3) := by decide +kernel
theorem dX10_latest_8 : decode cX10_latest 8 = .ok (.iconst 1, 1) := by decide +kernel
theorem dX10_latest_9 : decode cX10_latest 9 = .ok (.goto 32, 3) := by decide +kernel
theorem dX10_latest_12 : decode cX10_latest 12 = .ok (.iload_n 2, 1) := by decide +kernel
theorem dX10_latest_13 : decode cX10_latest 13 = .ok (.iconst 0, 1) := by decide +kernel
theorem dX10_latest_14 : decode cX10_latest 14 = .ok (.sipush 999, 3) := by decide +kernel
theorem dX10_latest_17 : decode cX10_latest 17 = .ok (.invokestatic 172, 3) := by decide +kernel
theorem dX10_latest_20 : decode cX10_latest 20 = .ok (.ifCond .ne 7, 3) := by decide +kernel
theorem dX10_latest_23 : decode cX10_latest 23 = .ok (.iconst 2, 1) := by decide +kernel
theorem dX10_latest_24 : decode cX10_latest 24 = .ok (.goto 17, 3) := by decide +kernel
theorem dX10_latest_27 : decode cX10_latest 27 = .ok (.aload_n 0, 1) := by decide +kernel
theorem dX10_latest_28 : decode cX10_latest 28 = .ok (.iload_n 1, 1) := by decide +kernel
theorem dX10_latest_29 : decode cX10_latest 29 = .ok (.invokevirtual 326, 3) := by decide +kernel
theorem dX10_latest_32 : decode cX10_latest 32 = .ok (.iconst (-1), 1) := by decide +kernel
theorem dX10_latest_33 : decode cX10_latest 33 = .ok (.if_icmp .ne 7, 3) := by decide +kernel
theorem dX10_latest_36 : decode cX10_latest 36 = .ok (.iconst 3, 1) := by decide +kernel
theorem dX10_latest_37 : decode cX10_latest 37 = .ok (.goto 4, 3) := by decide +kernel
theorem dX10_latest_40 : decode cX10_latest 40 = .ok (.iconst 0, 1) := by decide +kernel
theorem dX10_latest_41 : decode cX10_latest 41 = .ok (.putfield 168, 3) := by decide +kernel
theorem dX10_latest_44 : decode cX10_latest 44 = .ok (.aload_n 0, 1) := by decide +kernel
theorem dX10_latest_45 : decode cX10_latest 45 = .ok (.getfield 168, 3) := by decide +kernel
theorem dX10_latest_48 : decode cX10_latest 48 = .ok (.ifCond .ne 13, 3) := by decide +kernel
theorem dX10_latest_51 : decode cX10_latest 51 = .ok (.iload_n 2, 1) := by decide +kernel
theorem dX10_latest_52 : decode cX10_latest 52 = .ok (.aload_n 0, 1) := by decide +kernel
theorem dX10_latest_53 : decode cX10_latest 53 = .ok (.iload_n 1, 1) := by decide +kernel
theorem dX10_latest_54 : decode cX10_latest 54 = .ok (.invokevirtual 326, 3) := by decide +kernel
theorem dX10_latest_57 : decode cX10_latest 57 = .ok (.isub, 1) := by decide +kernel
theorem dX10_latest_58 : decode cX10_latest 58 = .ok (.goto 4, 3) := by decide +kernel
theorem dX10_latest_61 : decode cX10_latest 61 = .ok (.iconst 0, 1) := by decide +kernel
theorem dX10_latest_62 : decode cX10_latest 62 = .ok (.ireturn, 1) := by decide +kernel
theorem dX10_earliest_0 : decode cX10_earliest 0 = .ok (.aload_n 0, 1) := by decide +kernel
theorem dX10_earliest_1 : decode cX10_earliest 1 = .ok (.iload_n 1, 1) := by decide +kernel
theorem dX10_earliest_2 : decode cX10_earliest 2 = .ok (.invokestatic 179, 3) := by decide +kernel
theorem dX10_earliest_5 : decode cX10_earliest 5 = .ok (.ifCond .ne 7, 3) := by decide +kernel
theorem dX10_earliest_8 : decode cX10_earliest 8 = .ok (.iconst 1, 1) := by decide +kernel
theorem dX10_earliest_9 : decode cX10_earliest 9 = .ok (.goto 17, 3) := by decide +kernel
theorem dX10_earliest_12 : decode cX10_earliest 12 = .ok (.aload_n 0, 1) := by decide +kernel
theorem dX10_earliest_13 : decode cX10_earliest 13 = .ok (.iload_n 1, 1) := by decide +kernel
theorem dX10_earliest_14 : decode cX10_earliest 14 = .ok (.invokevirtual 326, 3) := by decide +kernel
theorem dX10_earliest_17 : decode cX10_earliest 17 = .ok (.iconst (-1), 1) := by decide +kernel
theorem dX10_earliest_18 : decode cX10_earliest 18 = .ok (.if_icmp .ne 7, 3) := by decide +kernel
theorem dX10_earliest_21 : decode cX10_earliest 21 = .ok (.iconst 2, 1) := by decide +kernel
theorem dX10_earliest_22 : decode cX10_earliest 22 = .ok (.goto 4, 3) := by decide +kernel
theorem dX10_earliest_25 : decode cX10_earliest 25 = .ok (.iconst 0, 1) := by decide +kernel
theorem dX10_earliest_26 : decode cX10_earliest 26 = .ok (.putfield 168, 3) := by decide +kernel
theorem dX10_earliest_29 : decode cX10_earliest 29 = .ok (.aload_n 0, 1) := by decide +kernel
theorem dX10_earliest_30 : decode cX10_earliest 30 = .ok (.getfield 168, 3) := by decide +kernel
theorem dX10_earliest_33 : decode cX10_earliest 33 = .ok (.ifCond .ne 16, 3) := by decide +kernel
theorem dX10_earliest_36 : decode cX10_earliest 36 = .ok (.aload_n 0, 1) := by decide +kernel
theorem dX10_earliest_37 : decode cX10_earliest 37 = .ok (.getfield 193, 3) := by decide +kernel
theorem dX10_earliest_40 : decode cX10_earliest 40 = .ok (.aload_n 0, 1) := by decide +kernel
theorem dX10_earliest_41 : decode cX10_earliest 41 = .ok (.iload_n 1, 1) := by decide +kernel
theorem dX10_earliest_42 : decode cX10_earliest 42 = .ok (.invokevirtual 326, 3) := by decide +kernel
theorem dX10_earliest_45 : decode cX10_earliest 45 = .ok (.iadd, 1) := by decide +kernel
theorem dX10_earliest_46 : decode cX10_earliest 46 = .ok (.goto 4, 3) := by decide +kernel
theorem dX10_earliest_49 : decode cX10_earliest 49 = .ok (.iconst 0, 1) := by decide +kernel
theorem dX10_earliest_50 : decode cX10_earliest 50 = .ok (.ireturn, 1) := by decide +kernel
theorem dX10_ledger_0 : decode cX10_ledger 0 = .ok (.aload_n 0, 1) := by decide +kernel
theorem dX10_ledger_1 : decode cX10_ledger 1 = .ok (.iload_n 1, 1) := by decide +kernel
theorem dX10_ledger_2 : decode cX10_ledger 2 = .ok (.iconst 0, 1) := by decide +kernel
theorem dX10_ledger_3 : decode cX10_ledger 3 = .ok (.iconst 5, 1) := by decide +kernel
theorem dX10_ledger_4 : decode cX10_ledger 4 = .ok (.invokestatic 172, 3) := by decide +kernel
theorem dX10_ledger_7 : decode cX10_ledger 7 = .ok (.ifCond .eq 7, 3) := by decide +kernel
theorem dX10_ledger_10 : decode cX10_ledger 10 = .ok (.iconst 0, 1) := by decide +kernel
theorem dX10_ledger_11 : decode cX10_ledger 11 = .ok (.goto 4, 3) := by decide +kernel
theorem dX10_ledger_14 : decode cX10_ledger 14 = .ok (.iconst 1, 1) := by decide +kernel
theorem dX10_ledger_15 : decode cX10_ledger 15 = .ok (.putfield 168, 3) := by decide +kernel
theorem dX10_ledger_18 : decode cX10_ledger 18 = .ok (.aload_n 0, 1) := by decide +kernel
theorem dX10_ledger_19 : decode cX10_ledger 19 = .ok (.getfield 168, 3) := by decide +kernel
theorem dX10_ledger_22 : decode cX10_ledger 22 = .ok (.ifCond .le 5, 3) := by decide +kernel
theorem dX10_ledger_25 : decode cX10_ledger 25 = .ok (.iconst 0, 1) := by decide +kernel
theorem dX10_ledger_26 : decode cX10_ledger 26 = .ok (.ireturn, 1) := by decide +kernel
theorem dX10_ledger_27 : decode cX10_ledger 27 = .ok (.iconst 0, 1) := by decide +kernel
theorem dX10_ledger_28 : decode cX10_ledger 28 = .ok (.istore_n 2, 1) := by decide +kernel
theorem dX10_ledger_29 : decode cX10_ledger 29 = .ok (.iconst 0, 1) := by decide +kernel
theorem dX10_ledger_30 : decode cX10_ledger 30 = .ok (.istore_n 3, 1) := by decide +kernel
theorem dX10_ledger_31 : decode cX10_ledger 31 = .ok (.iload_n 3, 1) := by decide +kernel
theorem dX10_ledger_32 : decode cX10_ledger 32 = .ok (.aload_n 0, 1) := by decide +kernel
theorem dX10_ledger_33 : decode cX10_ledger 33 = .ok (.getfield 176, 3) := by decide +kernel
theorem dX10_ledger_36 : decode cX10_ledger 36 = .ok (.if_icmp .ge 92, 3) := by decide +kernel
theorem dX10_ledger_39 : decode cX10_ledger 39 = .ok (.aload_n 0, 1) := by decide +kernel
theorem dX10_ledger_40 : decode cX10_ledger 40 = .ok (.getfield 62, 3) := by decide +kernel
theorem dX10_ledger_43 : decode cX10_ledger 43 = .ok (.iload_n 3, 1) := by decide +kernel
theorem dX10_ledger_44 : decode cX10_ledger 44 = .ok (.iaload, 1) := by decide +kernel
theorem dX10_ledger_45 : decode cX10_ledger 45 = .ok (.istore 4, 2) := by decide +kernel
theorem dX10_ledger_47 : decode cX10_ledger 47 = .ok (.iload_n 1, 1) := by decide +kernel
theorem dX10_ledger_48 : decode cX10_ledger 48 = .ok (.iconst 2, 1) := by decide +kernel
theorem dX10_ledger_49 : decode cX10_ledger 49 = .ok (.if_icmp .ne 17, 3) := by decide +kernel
theorem dX10_ledger_52 : decode cX10_ledger 52 = .ok (.iload 4, 2) := by decide +kernel
theorem dX10_ledger_54 : decode cX10_ledger 54 = .ok (.iconst 4, 1) := by decide +kernel
theorem dX10_ledger_55 : decode cX10_ledger 55 = .ok (.if_icmp .ge 7, 3) := by decide +kernel
theorem dX10_ledger_58 : decode cX10_ledger 58 = .ok (.iconst 1, 1) := by decide +kernel
theorem dX10_ledger_59 : decode cX10_ledger 59 = .ok (.goto 43, 3) := by decide +kernel
theorem dX10_ledger_62 : decode cX10_ledger 62 = .ok (.iconst 0, 1) := by decide +kernel
theorem dX10_ledger_63 : decode cX10_ledger 63 = .ok (.goto 39, 3) := by decide +kernel
theorem dX10_ledger_66 : decode cX10_ledger 66 = .ok (.iload_n 1, 1) := by decide +kernel
theorem dX10_ledger_67 : decode cX10_ledger 67 = .ok (.iconst 3, 1) := by decide +kernel
theorem dX10_ledger_68 : decode cX10_ledger 68 = .ok (.if_icmp .ne 17, 3) := by decide +kernel
theorem dX10_ledger_71 : decode cX10_ledger 71 = .ok (.iload 4, 2) := by decide +kernel
theorem dX10_ledger_73 : decode cX10_ledger 73 = .ok (.iconst 5, 1) := by decide +kernel
theorem dX10_ledger_74 : decode cX10_ledger 74 = .ok (.if_icmp .ne 7, 3) := by decide +kernel
theorem dX10_ledger_77 : decode cX10_ledger 77 = .ok (.iconst 1, 1) := by decide +kernel
theorem dX10_ledger_78 : decode cX10_ledger 78 = .ok (.goto 24, 3) := by decide +kernel
theorem dX10_ledger_81 : decode cX10_ledger 81 = .ok (.iconst 0, 1) := by decide +kernel
theorem dX10_ledger_82 : decode cX10_ledger 82 = .ok (.goto 20, 3) := by decide +kernel
theorem dX10_ledger_85 : decode cX10_ledger 85 = .ok (.iload_n 1, 1) := by decide +kernel
theorem dX10_ledger_86 : decode cX10_ledger 86 = .ok (.iconst 4, 1) := by decide +kernel
theorem dX10_ledger_87 : decode cX10_ledger 87 = .ok (.if_icmp .ne 14, 3) := by decide +kernel
theorem dX10_ledger_90 : decode cX10_ledger 90 = .ok (.iload 4, 2) := by decide +kernel
theorem dX10_ledger_92 : decode cX10_ledger 92 = .ok (.bipush 6, 2) := by decide +kernel
theorem dX10_ledger_94 : decode cX10_ledger 94 = .ok (.if_icmp .ne 7, 3) := by decide +kernel
theorem dX10_ledger_97 : decode cX10_ledger 97 = .ok (.iconst 1, 1) := by decide +kernel
theorem dX10_ledger_98 : decode cX10_ledger 98 = .ok (.goto 4, 3) := by decide +kernel
theorem dX10_ledger_101 : decode cX10_ledger 101 = .ok (.iconst 0, 1) := by decide +kernel
theorem dX10_ledger_102 : decode cX10_ledger 102 = .ok (.istore 5, 2) := by decide +kernel
theorem dX10_ledger_104 : decode cX10_ledger 104 = .ok (.iload_n 2, 1) := by decide +kernel
theorem dX10_ledger_105 : decode cX10_ledger 105 = .ok (.iload 5, 2) := by decide +kernel
theorem dX10_ledger_107 : decode cX10_ledger 107 = .ok (.ifCond .eq 12, 3) := by decide +kernel
theorem dX10_ledger_110 : decode cX10_ledger 110 = .ok (.aload_n 0, 1) := by decide +kernel
theorem dX10_ledger_111 : decode cX10_ledger 111 = .ok (.getfield 59, 3) := by decide +kernel
theorem dX10_ledger_114 : decode cX10_ledger 114 = .ok (.iload_n 3, 1) := by decide +kernel
theorem dX10_ledger_115 : decode cX10_ledger 115 = .ok (.iaload, 1) := by decide +kernel
theorem dX10_ledger_116 : decode cX10_ledger 116 = .ok (.goto 4, 3) := by decide +kernel
theorem dX10_ledger_119 : decode cX10_ledger 119 = .ok (.iconst 0, 1) := by decide +kernel
theorem dX10_ledger_120 : decode cX10_ledger 120 = .ok (.iadd, 1) := by decide +kernel
theorem dX10_ledger_121 : decode cX10_ledger 121 = .ok (.istore_n 2, 1) := by decide +kernel
theorem dX10_ledger_122 : decode cX10_ledger 122 = .ok (.iinc 3 1, 3) := by decide +kernel
theorem dX10_ledger_125 : decode cX10_ledger 125 = .ok (.goto (-94), 3) := by decide +kernel
theorem dX10_ledger_128 : decode cX10_ledger 128 = .ok (.iload_n 1, 1) := by decide +kernel
theorem dX10_ledger_129 : decode cX10_ledger 129 = .ok (.ifCond .ne 10, 3) := by decide +kernel
theorem dX10_ledger_132 : decode cX10_ledger 132 = .ok (.aload_n 0, 1) := by decide +kernel
theorem dX10_ledger_133 : decode cX10_ledger 133 = .ok (.getfield 216, 3) := by decide +kernel
theorem dX10_ledger_136 : decode cX10_ledger 136 = .ok (.goto 28, 3) := by decide +kernel
theorem dX10_ledger_139 : decode cX10_ledger 139 = .ok (.iload_n 1, 1) := by decide +kernel
theorem dX10_ledger_140 : decode cX10_ledger 140 = .ok (.iconst 1, 1) := by decide +kernel
theorem dX10_ledger_141 : decode cX10_ledger 141 = .ok (.if_icmp .ne 10, 3) := by decide +kernel
theorem dX10_ledger_144 : decode cX10_ledger 144 = .ok (.aload_n 0, 1) := by decide +kernel
theorem dX10_ledger_145 : decode cX10_ledger 145 = .ok (.getfield 258, 3) := by decide +kernel
theorem dX10_ledger_148 : decode cX10_ledger 148 = .ok (.goto 16, 3) := by decide +kernel
theorem dX10_ledger_151 : decode cX10_ledger 151 = .ok (.iload_n 1, 1) := by decide +kernel
theorem dX10_ledger_152 : decode cX10_ledger 152 = .ok (.iconst 5, 1) := by decide +kernel
theorem dX10_ledger_153 : decode cX10_ledger 153 = .ok (.if_icmp .ne 10, 3) := by decide +kernel
theorem dX10_ledger_156 : decode cX10_ledger 156 = .ok (.aload_n 0, 1) := by decide +kernel
theorem dX10_ledger_157 : decode cX10_ledger 157 = .ok (.getfield 229, 3) := by decide +kernel
theorem dX10_ledger_160 : decode cX10_ledger 160 = .ok (.goto 4, 3) := by decide +kernel
theorem dX10_ledger_163 : decode cX10_ledger 163 = .ok (.iload_n 2, 1) := by decide +kernel
theorem dX10_ledger_164 : decode cX10_ledger 164 = .ok (.ireturn, 1) := by decide +kernel
theorem dJ13_bitCount_95d88_0 : decode cJ13_bitCount_95d88 0 = .ok (.lload_n 0, 1) := by decide +kernel
theorem dJ13_bitCount_95d88_1 : decode cJ13_bitCount_95d88 1 = .ok (.lload_n 0, 1) := by decide +kernel
theorem dJ13_bitCount_95d88_2 : decode cJ13_bitCount_95d88 2 = .ok (.iconst 1, 1) := by decide +kernel
theorem dJ13_bitCount_95d88_3 : decode cJ13_bitCount_95d88 3 = .ok (.lushr, 1) := by decide +kernel
theorem dJ13_bitCount_95d88_4 : decode cJ13_bitCount_95d88 4 = .ok (.ldc2_w 314, 3) := by decide +kernel
theorem dJ13_bitCount_95d88_7 : decode cJ13_bitCount_95d88 7 = .ok (.land, 1) := by decide +kernel
theorem dJ13_bitCount_95d88_8 : decode cJ13_bitCount_95d88 8 = .ok (.lsub, 1) := by decide +kernel
theorem dJ13_bitCount_95d88_9 : decode cJ13_bitCount_95d88 9 = .ok (.lstore_n 0, 1) := by decide +kernel
theorem dJ13_bitCount_95d88_10 : decode cJ13_bitCount_95d88 10 = .ok (.lload_n 0, 1) := by decide +kernel
theorem dJ13_bitCount_95d88_11 : decode cJ13_bitCount_95d88 11 = .ok (.ldc2_w 316, 3) := by decide +kernel
theorem dJ13_bitCount_95d88_14 : decode cJ13_bitCount_95d88 14 = .ok (.land, 1) := by decide +kernel
theorem dJ13_bitCount_95d88_15 : decode cJ13_bitCount_95d88 15 = .ok (.lload_n 0, 1) := by decide +kernel
theorem dJ13_bitCount_95d88_16 : decode cJ13_bitCount_95d88 16 = .ok (.iconst 2, 1) := by decide +kernel
theorem dJ13_bitCount_95d88_17 : decode cJ13_bitCount_95d88 17 = .ok (.lushr, 1) := by decide +kernel
theorem dJ13_bitCount_95d88_18 : decode cJ13_bitCount_95d88 18 = .ok (.ldc2_w 316, 3) := by decide +kernel
theorem dJ13_bitCount_95d88_21 : decode cJ13_bitCount_95d88 21 = .ok (.land, 1) := by decide +kernel
theorem dJ13_bitCount_95d88_22 : decode cJ13_bitCount_95d88 22 = .ok (.ladd, 1) := by decide +kernel
theorem dJ13_bitCount_95d88_23 : decode cJ13_bitCount_95d88 23 = .ok (.lstore_n 0, 1) := by decide +kernel
theorem dJ13_bitCount_95d88_24 : decode cJ13_bitCount_95d88 24 = .ok (.lload_n 0, 1) := by decide +kernel
theorem dJ13_bitCount_95d88_25 : decode cJ13_bitCount_95d88 25 = .ok (.lload_n 0, 1) := by decide +kernel
theorem dJ13_bitCount_95d88_26 : decode cJ13_bitCount_95d88 26 = .ok (.iconst 4, 1) := by decide +kernel
theorem dJ13_bitCount_95d88_27 : decode cJ13_bitCount_95d88 27 = .ok (.lushr, 1) := by decide +kernel
theorem dJ13_bitCount_95d88_28 : decode cJ13_bitCount_95d88 28 = .ok (.ladd, 1) := by decide +kernel
theorem dJ13_bitCount_95d88_29 : decode cJ13_bitCount_95d88 29 = .ok (.ldc2_w 318, 3) := by decide +kernel
theorem dJ13_bitCount_95d88_32 : decode cJ13_bitCount_95d88 32 = .ok (.land, 1) := by decide +kernel
theorem dJ13_bitCount_95d88_33 : decode cJ13_bitCount_95d88 33 = .ok (.lstore_n 0, 1) := by decide +kernel
theorem dJ13_bitCount_95d88_34 : decode cJ13_bitCount_95d88 34 = .ok (.lload_n 0, 1) := by decide +kernel
theorem dJ13_bitCount_95d88_35 : decode cJ13_bitCount_95d88 35 = .ok (.lload_n 0, 1) := by decide +kernel
theorem dJ13_bitCount_95d88_36 : decode cJ13_bitCount_95d88 36 = .ok (.bipush 8, 2) := by decide +kernel
theorem dJ13_bitCount_95d88_38 : decode cJ13_bitCount_95d88 38 = .ok (.lushr, 1) := by decide +kernel
theorem dJ13_bitCount_95d88_39 : decode cJ13_bitCount_95d88 39 = .ok (.ladd, 1) := by decide +kernel
theorem dJ13_bitCount_95d88_40 : decode cJ13_bitCount_95d88 40 = .ok (.lstore_n 0, 1) := by decide +kernel
theorem dJ13_bitCount_95d88_41 : decode cJ13_bitCount_95d88 41 = .ok (.lload_n 0, 1) := by decide +kernel
theorem dJ13_bitCount_95d88_42 : decode cJ13_bitCount_95d88 42 = .ok (.lload_n 0, 1) := by decide +kernel
theorem dJ13_bitCount_95d88_43 : decode cJ13_bitCount_95d88 43 = .ok (.bipush 16, 2) := by decide +kernel
theorem dJ13_bitCount_95d88_45 : decode cJ13_bitCount_95d88 45 = .ok (.lushr, 1) := by decide +kernel
theorem dJ13_bitCount_95d88_46 : decode cJ13_bitCount_95d88 46 = .ok (.ladd, 1) := by decide +kernel
theorem dJ13_bitCount_95d88_47 : decode cJ13_bitCount_95d88 47 = .ok (.lstore_n 0, 1) := by decide +kernel
theorem dJ13_bitCount_95d88_48 : decode cJ13_bitCount_95d88 48 = .ok (.lload_n 0, 1) := by decide +kernel
theorem dJ13_bitCount_95d88_49 : decode cJ13_bitCount_95d88 49 = .ok (.lload_n 0, 1) := by decide +kernel
theorem dJ13_bitCount_95d88_50 : decode cJ13_bitCount_95d88 50 = .ok (.bipush 32, 2) := by decide +kernel
theorem dJ13_bitCount_95d88_52 : decode cJ13_bitCount_95d88 52 = .ok (.lushr, 1) := by decide +kernel
theorem dJ13_bitCount_95d88_53 : decode cJ13_bitCount_95d88 53 = .ok (.ladd, 1) := by decide +kernel
theorem dJ13_bitCount_95d88_54 : decode cJ13_bitCount_95d88 54 = .ok (.lstore_n 0, 1) := by decide +kernel
theorem dJ13_bitCount_95d88_55 : decode cJ13_bitCount_95d88 55 = .ok (.lload_n 0, 1) := by decide +kernel
theorem dJ13_bitCount_95d88_56 : decode cJ13_bitCount_95d88 56 = .ok (.l2i, 1) := by decide +kernel
theorem dJ13_bitCount_95d88_57 : decode cJ13_bitCount_95d88 57 = .ok (.bipush 127, 2) := by decide +kernel
theorem dJ13_bitCount_95d88_59 : decode cJ13_bitCount_95d88 59 = .ok (.iand, 1) := by decide +kernel
theorem dJ13_bitCount_95d88_60 : decode cJ13_bitCount_95d88 60 = .ok (.ireturn, 1) := by decide +kernel
theorem dJ9_floorMod_7cf53_0 : decode cJ9_floorMod_7cf53 0 = .ok (.iload_n 0, 1) := by decide +kernel
theorem dJ9_floorMod_7cf53_1 : decode cJ9_floorMod_7cf53 1 = .ok (.iload_n 1, 1) := by decide +kernel
theorem dJ9_floorMod_7cf53_2 : decode cJ9_floorMod_7cf53 2 = .ok (.irem, 1) := by decide +kernel
theorem dJ9_floorMod_7cf53_3 : decode cJ9_floorMod_7cf53 3 = .ok (.istore_n 2, 1) := by decide +kernel
theorem dJ9_floorMod_7cf53_4 : decode cJ9_floorMod_7cf53 4 = .ok (.iload_n 0, 1) := by decide +kernel
theorem dJ9_floorMod_7cf53_5 : decode cJ9_floorMod_7cf53 5 = .ok (.iload_n 1, 1) := by decide +kernel
theorem dJ9_floorMod_7cf53_6 : decode cJ9_floorMod_7cf53 6 = .ok (.ixor, 1) := by decide +kernel
theorem dJ9_floorMod_7cf53_7 : decode cJ9_floorMod_7cf53 7 = .ok (.ifCond .ge 11, 3) := by decide +kernel
theorem dJ9_floorMod_7cf53_10 : decode cJ9_floorMod_7cf53 10 = .ok (.iload_n 2, 1) := by decide +kernel
theorem dJ9_floorMod_7cf53_11 : decode cJ9_floorMod_7cf53 11 = .ok (.ifCond .eq 7, 3) := by decide +kernel
theorem dJ9_floorMod_7cf53_14 : decode cJ9_floorMod_7cf53 14 = .ok (.iload_n 2, 1) := by decide +kernel
theorem dJ9_floorMod_7cf53_15 : decode cJ9_floorMod_7cf53 15 = .ok (.iload_n 1, 1) := by decide +kernel
theorem dJ9_floorMod_7cf53_16 : decode cJ9_floorMod_7cf53 16 = .ok (.iadd, 1) := by decide +kernel
theorem dJ9_floorMod_7cf53_17 : decode cJ9_floorMod_7cf53 17 = .ok (.ireturn, 1) := by decide +kernel
theorem dJ9_floorMod_7cf53_18 : decode cJ9_floorMod_7cf53 18 = .ok (.iload_n 2, 1) := by decide +kernel
theorem dJ9_floorMod_7cf53_19 : decode cJ9_floorMod_7cf53 19 = .ok (.ireturn, 1) := by decide +kernel
theorem dJ9_max_7cf53_0 : decode cJ9_max_7cf53 0 = .ok (.iload_n 0, 1) := by decide +kernel
theorem dJ9_max_7cf53_1 : decode cJ9_max_7cf53 1 = .ok (.iload_n 1, 1) := by decide +kernel
theorem dJ9_max_7cf53_2 : decode cJ9_max_7cf53 2 = .ok (.if_icmp .lt 7, 3) := by decide +kernel
theorem dJ9_max_7cf53_5 : decode cJ9_max_7cf53 5 = .ok (.iload_n 0, 1) := by decide +kernel
theorem dJ9_max_7cf53_6 : decode cJ9_max_7cf53 6 = .ok (.goto 4, 3) := by decide +kernel
theorem dJ9_max_7cf53_9 : decode cJ9_max_7cf53 9 = .ok (.iload_n 1, 1) := by decide +kernel
theorem dJ9_max_7cf53_10 : decode cJ9_max_7cf53 10 = .ok (.ireturn, 1) := by decide +kernel
theorem dJ9_min_7cf53_0 : decode cJ9_min_7cf53 0 = .ok (.iload_n 0, 1) := by decide +kernel
theorem dJ9_min_7cf53_1 : decode cJ9_min_7cf53 1 = .ok (.iload_n 1, 1) := by decide +kernel
theorem dJ9_min_7cf53_2 : decode cJ9_min_7cf53 2 = .ok (.if_icmp .gt 7, 3) := by decide +kernel
theorem dJ9_min_7cf53_5 : decode cJ9_min_7cf53 5 = .ok (.iload_n 0, 1) := by decide +kernel
theorem dJ9_min_7cf53_6 : decode cJ9_min_7cf53 6 = .ok (.goto 4, 3) := by decide +kernel
theorem dJ9_min_7cf53_9 : decode cJ9_min_7cf53 9 = .ok (.iload_n 1, 1) := by decide +kernel
theorem dJ9_min_7cf53_10 : decode cJ9_min_7cf53 10 = .ok (.ireturn, 1) := by decide +kernel
abbrev vwCl : List vw_C := [(RX0, TX0, 12), (RX1, TX1, 7), (RX2, TX2, 14), (RX3, TX3, 3), (RX4, TX4, 15), (RX5, TX5, 3), (RX6, TX6, 6), (RX7, TX7, 7), (RX8, TX8, 5), (RX9, TX9, 6), (RX10, TX10, 62)]
