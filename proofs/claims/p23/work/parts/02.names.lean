def RX0 : String := "TillOptimists$Clerk"
def TX0 : u_T := fun k => match k with
  | 0 => ("TillOptimists$Clerk", "steps", "I", false)
  | 1 => ("TillOptimists$Clerk", "kinds", "[I", true)
  | 2 => ("TillOptimists$Clerk", "firsts", "[I", true)
  | 3 => ("TillOptimists$Clerk", "seconds", "[I", true)
  | 4 => ("TillOptimists$Clerk", "numbers", "[I", true)
  | 5 => ("TillOptimists$Clerk", "place", "I", false)
  | 6 => ("TillOptimists$Clerk", "done", "Z", false)
  | 7 => ("TillOptimists$Clerk", "lost", "I", false)
  | 8 => ("TillOptimists$Clerk", "remembered", "[I", true)
  | 9 => ("TillOptimists$Clerk", "rememberedSeals", "[I", true)
  | _ => ("TillOptimists$Clerk", "own", "[I", true)
def tyX0 : Nat → FieldType := fun k => match k with
  | 0 => .int
  | 1 => .array .int
  | 2 => .array .int
  | 3 => .array .int
  | 4 => .array .int
  | 5 => .int
  | 6 => .boolean
  | 7 => .int
  | 8 => .array .int
  | 9 => .array .int
  | _ => .array .int
abbrev wsX00 : List Cond := u_ws RX0 TX0 11
theorem nmX0 : ∀ a, a < 11 → ∀ b, b < 11 → a ≠ b → (TX0 a).2.1 ≠ (TX0 b).2.1 := by decide +kernel
theorem tyX0_ok : ∀ k, k < 11 → parseFieldDescriptor (TX0 k).2.2.1 = some (tyX0 k) := by decide +kernel
abbrev cX0_init : ByteArray := prog_2_method_1_code
def yX0_init : MethodName := ⟨RX0, "<init>", "()V"⟩
abbrev cX0_beginAnew : ByteArray := prog_2_method_2_code
def yX0_beginAnew : MethodName := ⟨RX0, "beginAnew", "()V"⟩
abbrev cX0_startOver : ByteArray := prog_2_method_3_code
def yX0_startOver : MethodName := ⟨RX0, "startOver", "()V"⟩
abbrev cX0_become : ByteArray := prog_2_method_4_code
def yX0_become : MethodName := ⟨RX0, "become", "(LTillOptimists$Clerk;)V"⟩
abbrev cX0_addStep : ByteArray := prog_2_method_5_code
def yX0_addStep : MethodName := ⟨RX0, "addStep", "(IIII)V"⟩
abbrev cX0_isAtWork : ByteArray := prog_2_method_6_code
def yX0_isAtWork : MethodName := ⟨RX0, "isAtWork", "()Z"⟩
abbrev cX0_remembers : ByteArray := prog_2_method_7_code
def yX0_remembers : MethodName := ⟨RX0, "remembers", "(I)Z"⟩
abbrev cX0_hasWritten : ByteArray := prog_2_method_8_code
def yX0_hasWritten : MethodName := ⟨RX0, "hasWritten", "(I)Z"⟩
abbrev cX0_countRemembered : ByteArray := prog_2_method_9_code
def yX0_countRemembered : MethodName := ⟨RX0, "countRemembered", "()I"⟩
abbrev cX0_countWritten : ByteArray := prog_2_method_10_code
def yX0_countWritten : MethodName := ⟨RX0, "countWritten", "()I"⟩
abbrev cX0_slipFact : ByteArray := prog_2_method_11_code
def yX0_slipFact : MethodName := ⟨RX0, "slipFact", "(II)I"⟩
abbrev cX0_stepFact : ByteArray := prog_2_method_12_code
def yX0_stepFact : MethodName := ⟨RX0, "stepFact", "(II)I"⟩
def RX1 : String := "TillOptimists$Shop"
def TX1 : u_T := fun k => match k with
  | 0 => ("TillOptimists$Shop", "drawers", "I", false)
  | 1 => ("TillOptimists$Shop", "amounts", "[I", true)
  | 2 => ("TillOptimists$Shop", "seals", "[I", true)
  | 3 => ("TillOptimists$Shop", "clerkCount", "I", false)
  | 4 => ("TillOptimists$Shop", "clerks", "[LTillOptimists$Clerk;", true)
  | 5 => ("TillOptimists$Shop", "closings", "I", false)
  | 6 => ("TillOptimists$Shop", "closers", "[I", true)
  | 7 => ("TillOptimists$Shop", "writtens", "[I", true)
  | _ => ("TillOptimists$Shop", "sums", "[I", true)
def tyX1 : Nat → FieldType := fun k => match k with
  | 0 => .int
  | 1 => .array .int
  | 2 => .array .int
  | 3 => .int
  | 4 => .array (.object "TillOptimists$Clerk")
  | 5 => .int
  | 6 => .array .int
  | 7 => .array .int
  | _ => .array .int
abbrev wsX10 : List Cond := u_ws RX1 TX1 9
theorem nmX1 : ∀ a, a < 9 → ∀ b, b < 9 → a ≠ b → (TX1 a).2.1 ≠ (TX1 b).2.1 := by decide +kernel
theorem tyX1_ok : ∀ k, k < 9 → parseFieldDescriptor (TX1 k).2.2.1 = some (tyX1 k) := by decide +kernel
abbrev cX1_init : ByteArray := prog_3_method_1_code
def yX1_init : MethodName := ⟨RX1, "<init>", "()V"⟩
abbrev cX1_beginAnew : ByteArray := prog_3_method_2_code
def yX1_beginAnew : MethodName := ⟨RX1, "beginAnew", "(I)V"⟩
abbrev cX1_become : ByteArray := prog_3_method_3_code
def yX1_become : MethodName := ⟨RX1, "become", "(LTillOptimists$Shop;)V"⟩
abbrev cX1_addClerk : ByteArray := prog_3_method_4_code
def yX1_addClerk : MethodName := ⟨RX1, "addClerk", "()I"⟩
abbrev cX1_payByHand : ByteArray := prog_3_method_5_code
def yX1_payByHand : MethodName := ⟨RX1, "payByHand", "(II)V"⟩
abbrev cX1_keepClosing : ByteArray := prog_3_method_6_code
def yX1_keepClosing : MethodName := ⟨RX1, "keepClosing", "(II)V"⟩
abbrev cX1_takeTurn : ByteArray := prog_3_method_7_code
def yX1_takeTurn : MethodName := ⟨RX1, "takeTurn", "(I)I"⟩
abbrev cX1_doStep : ByteArray := prog_3_method_8_code
def yX1_doStep : MethodName := ⟨RX1, "doStep", "(LTillOptimists$Clerk;)V"⟩
abbrev cX1_carry : ByteArray := prog_3_method_9_code
def yX1_carry : MethodName := ⟨RX1, "carry", "(LTillOptimists$Clerk;III)V"⟩
abbrev cX1_read : ByteArray := prog_3_method_10_code
def yX1_read : MethodName := ⟨RX1, "read", "(LTillOptimists$Clerk;I)I"⟩
abbrev cX1_held : ByteArray := prog_3_method_11_code
def yX1_held : MethodName := ⟨RX1, "held", "(I)I"⟩
abbrev cX1_isOutdated : ByteArray := prog_3_method_12_code
def yX1_isOutdated : MethodName := ⟨RX1, "isOutdated", "(LTillOptimists$Clerk;)Z"⟩
abbrev cX1_close : ByteArray := prog_3_method_13_code
def yX1_close : MethodName := ⟨RX1, "close", "(I)V"⟩
abbrev cX1_goRounds : ByteArray := prog_3_method_14_code
def yX1_goRounds : MethodName := ⟨RX1, "goRounds", "(I)I"⟩
abbrev cX1_goRound : ByteArray := prog_3_method_15_code
def yX1_goRound : MethodName := ⟨RX1, "goRound", "()I"⟩
abbrev cX1_workAlone : ByteArray := prog_3_method_16_code
def yX1_workAlone : MethodName := ⟨RX1, "workAlone", "(I)V"⟩
abbrev cX1_isAnyAtWork : ByteArray := prog_3_method_17_code
def yX1_isAnyAtWork : MethodName := ⟨RX1, "isAnyAtWork", "()Z"⟩
abbrev cX1_clashes : ByteArray := prog_3_method_18_code
def yX1_clashes : MethodName := ⟨RX1, "clashes", "(II)Z"⟩
abbrev cX1_closingsKept : ByteArray := prog_3_method_20_code
def yX1_closingsKept : MethodName := ⟨RX1, "closingsKept", "()I"⟩
abbrev cX1_closingFact : ByteArray := prog_3_method_21_code
def yX1_closingFact : MethodName := ⟨RX1, "closingFact", "(II)I"⟩
abbrev cX1_countFact : ByteArray := prog_3_method_22_code
def yX1_countFact : MethodName := ⟨RX1, "countFact", "(I)I"⟩
abbrev cX1_drawerFact : ByteArray := prog_3_method_23_code
def yX1_drawerFact : MethodName := ⟨RX1, "drawerFact", "(II)I"⟩
abbrev cX1_clerkFact : ByteArray := prog_3_method_24_code
def yX1_clerkFact : MethodName := ⟨RX1, "clerkFact", "(II)I"⟩
abbrev cX1_wouldLose : ByteArray := prog_3_method_25_code
def yX1_wouldLose : MethodName := ⟨RX1, "wouldLose", "(LTillOptimists$Clerk;)Z"⟩
abbrev cX1_countDone : ByteArray := prog_3_method_26_code
def yX1_countDone : MethodName := ⟨RX1, "countDone", "()I"⟩
abbrev cX1_countLosers : ByteArray := prog_3_method_27_code
def yX1_countLosers : MethodName := ⟨RX1, "countLosers", "()I"⟩
abbrev cX1_countRememberers : ByteArray := prog_3_method_28_code
def yX1_countRememberers : MethodName := ⟨RX1, "countRememberers", "(I)I"⟩
abbrev cX1_countWriters : ByteArray := prog_3_method_29_code
def yX1_countWriters : MethodName := ⟨RX1, "countWriters", "(I)I"⟩
abbrev cX1_sumLost : ByteArray := prog_3_method_30_code
def yX1_sumLost : MethodName := ⟨RX1, "sumLost", "()I"⟩
abbrev cX1_sumAmounts : ByteArray := prog_3_method_31_code
def yX1_sumAmounts : MethodName := ⟨RX1, "sumAmounts", "()I"⟩
def RX2 : String := "TillOptimists"
def TX2 : u_T := fun k => match k with
  | 0 => ("TillOptimists", "now", "LTillOptimists$Shop;", true)
  | _ => ("TillOptimists", "trial", "LTillOptimists$Shop;", true)
def tyX2 : Nat → FieldType := fun k => match k with
  | 0 => .object "TillOptimists$Shop"
  | _ => .object "TillOptimists$Shop"
abbrev wsX20 : List Cond := u_ws RX2 TX2 2
theorem nmX2 : ∀ a, a < 2 → ∀ b, b < 2 → a ≠ b → (TX2 a).2.1 ≠ (TX2 b).2.1 := by decide +kernel
theorem tyX2_ok : ∀ k, k < 2 → parseFieldDescriptor (TX2 k).2.2.1 = some (tyX2 k) := by decide +kernel
abbrev cX2_init : ByteArray := prog_1_method_1_code
def yX2_init : MethodName := ⟨RX2, "<init>", "()V"⟩
abbrev cX2_till : ByteArray := prog_1_method_2_code
def yX2_till : MethodName := ⟨RX2, "till", "(I)I"⟩
abbrev cX2_pay : ByteArray := prog_1_method_3_code
def yX2_pay : MethodName := ⟨RX2, "pay", "(II)I"⟩
abbrev cX2_clerk : ByteArray := prog_1_method_4_code
def yX2_clerk : MethodName := ⟨RX2, "clerk", "()I"⟩
abbrev cX2_say : ByteArray := prog_1_method_5_code
def yX2_say : MethodName := ⟨RX2, "say", "(IIIII)I"⟩
abbrev cX2_turn : ByteArray := prog_1_method_6_code
def yX2_turn : MethodName := ⟨RX2, "turn", "(I)I"⟩
abbrev cX2_drop : ByteArray := prog_1_method_7_code
def yX2_drop : MethodName := ⟨RX2, "drop", "(I)I"⟩
abbrev cX2_pass : ByteArray := prog_1_method_8_code
def yX2_pass : MethodName := ⟨RX2, "pass", "(I)I"⟩
abbrev cX2_drawer : ByteArray := prog_1_method_9_code
def yX2_drawer : MethodName := ⟨RX2, "drawer", "(II)I"⟩
abbrev cX2_told : ByteArray := prog_1_method_10_code
def yX2_told : MethodName := ⟨RX2, "told", "(II)I"⟩
abbrev cX2_slip : ByteArray := prog_1_method_11_code
def yX2_slip : MethodName := ⟨RX2, "slip", "(III)I"⟩
abbrev cX2_step : ByteArray := prog_1_method_12_code
def yX2_step : MethodName := ⟨RX2, "step", "(III)I"⟩
abbrev cX2_closing : ByteArray := prog_1_method_13_code
def yX2_closing : MethodName := ⟨RX2, "closing", "(II)I"⟩
abbrev cX2_clash : ByteArray := prog_1_method_14_code
def yX2_clash : MethodName := ⟨RX2, "clash", "(II)Z"⟩
abbrev cX2_count : ByteArray := prog_1_method_15_code
def yX2_count : MethodName := ⟨RX2, "count", "(I)I"⟩
abbrev cX2_alone : ByteArray := prog_1_method_16_code
def yX2_alone : MethodName := ⟨RX2, "alone", "(II)I"⟩
abbrev cX2_until : ByteArray := prog_1_method_17_code
def yX2_until : MethodName := ⟨RX2, "until", "()I"⟩
abbrev cX2_foresee : ByteArray := prog_1_method_18_code
def yX2_foresee : MethodName := ⟨RX2, "foresee", "(II)I"⟩
abbrev cX2_mean : ByteArray := prog_1_method_20_code
def yX2_mean : MethodName := ⟨RX2, "mean", "()D"⟩
abbrev cX2_digest : ByteArray := prog_1_method_21_code
def yX2_digest : MethodName := ⟨RX2, "digest", "()J"⟩
abbrev cX2_digestDrawers : ByteArray := prog_1_method_22_code
def yX2_digestDrawers : MethodName := ⟨RX2, "digestDrawers", "(J)J"⟩
abbrev cX2_digestClerks : ByteArray := prog_1_method_23_code
def yX2_digestClerks : MethodName := ⟨RX2, "digestClerks", "(J)J"⟩
abbrev cX2_digestClosings : ByteArray := prog_1_method_24_code
def yX2_digestClosings : MethodName := ⟨RX2, "digestClosings", "(J)J"⟩
abbrev cX2_fitsKind : ByteArray := prog_1_method_25_code
def yX2_fitsKind : MethodName := ⟨RX2, "fitsKind", "(IIII)Z"⟩
abbrev cX2_needDrawer : ByteArray := prog_1_method_26_code
def yX2_needDrawer : MethodName := ⟨RX2, "needDrawer", "(I)V"⟩
abbrev cX2_needClerk : ByteArray := prog_1_method_27_code
def yX2_needClerk : MethodName := ⟨RX2, "needClerk", "(I)V"⟩
abbrev cX2_needWhat : ByteArray := prog_1_method_28_code
def yX2_needWhat : MethodName := ⟨RX2, "needWhat", "(III)V"⟩
abbrev cX2_needRounds : ByteArray := prog_1_method_29_code
def yX2_needRounds : MethodName := ⟨RX2, "needRounds", "(I)V"⟩
def RX3 : String := "TillOptimistsLaw$Clerk"
def TX3 : u_T := fun k => match k with
  | 0 => ("TillOptimistsLaw$Clerk", "program", "[[I", false)
  | 1 => ("TillOptimistsLaw$Clerk", "place", "I", false)
  | 2 => ("TillOptimistsLaw$Clerk", "isDone", "Z", false)
  | 3 => ("TillOptimistsLaw$Clerk", "lost", "I", false)
  | 4 => ("TillOptimistsLaw$Clerk", "seen", "[[I", false)
  | _ => ("TillOptimistsLaw$Clerk", "own", "[[I", false)
def tyX3 : Nat → FieldType := fun k => match k with
  | 0 => .array (.array .int)
  | 1 => .int
  | 2 => .boolean
  | 3 => .int
  | 4 => .array (.array .int)
  | _ => .array (.array .int)
abbrev wsX30 : List Cond := u_ws RX3 TX3 6
theorem nmX3 : ∀ a, a < 6 → ∀ b, b < 6 → a ≠ b → (TX3 a).2.1 ≠ (TX3 b).2.1 := by decide +kernel
theorem tyX3_ok : ∀ k, k < 6 → parseFieldDescriptor (TX3 k).2.2.1 = some (tyX3 k) := by decide +kernel
abbrev cX3_init : ByteArray := prog_5_method_1_code
def yX3_init : MethodName := ⟨RX3, "<init>", "()V"⟩
abbrev cX3_more : ByteArray := prog_5_method_2_code
def yX3_more : MethodName := ⟨RX3, "more", "([[I[I)[[I"⟩
abbrev cX3_find : ByteArray := prog_5_method_3_code
def yX3_find : MethodName := ⟨RX3, "find", "([[II)[I"⟩
abbrev cX3_begin : ByteArray := prog_5_method_5_code
def yX3_begin : MethodName := ⟨RX3, "begin", "()V"⟩
abbrev cX3_read : ByteArray := prog_5_method_6_code
def yX3_read : MethodName := ⟨RX3, "read", "(LTillOptimistsLaw$Sim;I)I"⟩
abbrev cX3_write : ByteArray := prog_5_method_7_code
def yX3_write : MethodName := ⟨RX3, "write", "(II)V"⟩
abbrev cX3_act : ByteArray := prog_5_method_8_code
def yX3_act : MethodName := ⟨RX3, "act", "(LTillOptimistsLaw$Sim;[I)V"⟩
abbrev cX3_isLosing : ByteArray := prog_5_method_9_code
def yX3_isLosing : MethodName := ⟨RX3, "isLosing", "(LTillOptimistsLaw$Sim;)Z"⟩
def RX4 : String := "TillOptimistsLaw$Sim"
def TX4 : u_T := fun k => match k with
  | 0 => ("TillOptimistsLaw$Sim", "amounts", "[I", false)
  | 1 => ("TillOptimistsLaw$Sim", "seals", "[I", false)
  | 2 => ("TillOptimistsLaw$Sim", "clerks", "[LTillOptimistsLaw$Clerk;", false)
  | _ => ("TillOptimistsLaw$Sim", "closings", "[[I", false)
def tyX4 : Nat → FieldType := fun k => match k with
  | 0 => .array .int
  | 1 => .array .int
  | 2 => .array (.object "TillOptimistsLaw$Clerk")
  | _ => .array (.array .int)
abbrev wsX40 : List Cond := u_ws RX4 TX4 4
theorem nmX4 : ∀ a, a < 4 → ∀ b, b < 4 → a ≠ b → (TX4 a).2.1 ≠ (TX4 b).2.1 := by decide +kernel
theorem tyX4_ok : ∀ k, k < 4 → parseFieldDescriptor (TX4 k).2.2.1 = some (tyX4 k) := by decide +kernel
abbrev cX4_init : ByteArray := prog_6_method_1_code
def yX4_init : MethodName := ⟨RX4, "<init>", "(I)V"⟩
abbrev cX4_addClerk : ByteArray := prog_6_method_3_code
def yX4_addClerk : MethodName := ⟨RX4, "addClerk", "()V"⟩
abbrev cX4_sum : ByteArray := prog_6_method_4_code
def yX4_sum : MethodName := ⟨RX4, "sum", "()I"⟩
abbrev cX4_close : ByteArray := prog_6_method_5_code
def yX4_close : MethodName := ⟨RX4, "close", "(I[[I)V"⟩
abbrev cX4_goesOn : ByteArray := prog_6_method_6_code
def yX4_goesOn : MethodName := ⟨RX4, "goesOn", "(I)Z"⟩
abbrev cX4_turn : ByteArray := prog_6_method_7_code
def yX4_turn : MethodName := ⟨RX4, "turn", "(I)I"⟩
abbrev cX4_round : ByteArray := prog_6_method_8_code
def yX4_round : MethodName := ⟨RX4, "round", "()I"⟩
abbrev cX4_clash : ByteArray := prog_6_method_10_code
def yX4_clash : MethodName := ⟨RX4, "clash", "(II)Z"⟩
abbrev cX4_counted : ByteArray := prog_6_method_11_code
def yX4_counted : MethodName := ⟨RX4, "counted", "(I)I"⟩
abbrev cX4_isSame : ByteArray := prog_6_method_12_code
def yX4_isSame : MethodName := ⟨RX4, "isSame", "(LTillOptimists;)Z"⟩
def RX5 : String := "TillOptimistsModel$State"
def TX5 : u_T := fun k => match k with
  | _ => ("", "", "", false)
def tyX5 : Nat → FieldType := fun k => match k with
  | _ => .int
abbrev wsX50 : List Cond := u_ws RX5 TX5 0
theorem nmX5 : ∀ a, a < 0 → ∀ b, b < 0 → a ≠ b → (TX5 a).2.1 ≠ (TX5 b).2.1 := by decide +kernel
theorem tyX5_ok : ∀ k, k < 0 → parseFieldDescriptor (TX5 k).2.2.1 = some (tyX5 k) := by decide +kernel
def RX6 : String := "TillOptimistsModel"
def TX6 : u_T := fun k => match k with
  | _ => ("", "", "", false)
def tyX6 : Nat → FieldType := fun k => match k with
  | _ => .int
abbrev wsX60 : List Cond := u_ws RX6 TX6 0
theorem nmX6 : ∀ a, a < 0 → ∀ b, b < 0 → a ≠ b → (TX6 a).2.1 ≠ (TX6 b).2.1 := by decide +kernel
theorem tyX6_ok : ∀ k, k < 0 → parseFieldDescriptor (TX6 k).2.2.1 = some (tyX6 k) := by decide +kernel
def RJ9 : String := "java/lang/Math"
def TJ9 : u_T := fun k => match k with
  | _ => ("", "", "", false)
def tyJ9 : Nat → FieldType := fun k => match k with
  | _ => .int
abbrev wsJ90 : List Cond := u_ws RJ9 TJ9 0
theorem nmJ9 : ∀ a, a < 0 → ∀ b, b < 0 → a ≠ b → (TJ9 a).2.1 ≠ (TJ9 b).2.1 := by decide +kernel
theorem tyJ9_ok : ∀ k, k < 0 → parseFieldDescriptor (TJ9 k).2.2.1 = some (tyJ9 k) := by decide +kernel
abbrev cJ9_min_7cf53 : ByteArray := prog_13_method_69_code
def yJ9_min_7cf53 : MethodName := ⟨RJ9, "min", "(II)I"⟩
def RJ0 : String := "java/lang/String"
def TJ0 : u_T := fun k => match k with
  | _ => ("", "", "", false)
def tyJ0 : Nat → FieldType := fun k => match k with
  | _ => .int
abbrev wsJ00 : List Cond := u_ws RJ0 TJ0 0
theorem nmJ0 : ∀ a, a < 0 → ∀ b, b < 0 → a ≠ b → (TJ0 a).2.1 ≠ (TJ0 b).2.1 := by decide +kernel
theorem tyJ0_ok : ∀ k, k < 0 → parseFieldDescriptor (TJ0 k).2.2.1 = some (tyJ0 k) := by decide +kernel
def RL : String := "TillOptimistsLaw"
abbrev cL_below : ByteArray := method_2_code
def yL_below : MethodName := ⟨RL, "below", "(II)I"⟩
abbrev cL_cell : ByteArray := method_3_code
def yL_cell : MethodName := ⟨RL, "cell", "([II)I"⟩
abbrev cL_say : ByteArray := method_4_code
def yL_say : MethodName := ⟨RL, "say", "(LTillOptimists;LTillOptimistsLaw$Sim;II)Z"⟩
abbrev cL_build : ByteArray := method_5_code
def yL_build : MethodName := ⟨RL, "build", "(LTillOptimists;[I)LTillOptimistsLaw$Sim;"⟩
abbrev cL_act : ByteArray := method_6_code
def yL_act : MethodName := ⟨RL, "act", "(LTillOptimists;LTillOptimistsLaw$Sim;I)Z"⟩
abbrev cL_law : ByteArray := code
def yL_law : MethodName := ⟨RL, "law", "([I)Z"⟩
theorem dX0_init_0 : decode cX0_init 0 = .ok (.aload_n 0, 1) := by decide +kernel
theorem dX0_init_1 : decode cX0_init 1 = .ok (.invokespecial 3, 3) := by decide +kernel
theorem dX0_init_4 : decode cX0_init 4 = .ok (.aload_n 0, 1) := by decide +kernel
theorem dX0_init_5 : decode cX0_init 5 = .ok (.bipush 8, 2) := by decide +kernel
theorem dX0_init_7 : decode cX0_init 7 = .ok (.newarray .int, 2) := by decide +kernel
theorem dX0_init_9 : decode cX0_init 9 = .ok (.putfield 9, 3) := by decide +kernel
theorem dX0_init_12 : decode cX0_init 12 = .ok (.aload_n 0, 1) := by decide +kernel
theorem dX0_init_13 : decode cX0_init 13 = .ok (.bipush 8, 2) := by decide +kernel
theorem dX0_init_15 : decode cX0_init 15 = .ok (.newarray .int, 2) := by decide +kernel
theorem dX0_init_17 : decode cX0_init 17 = .ok (.putfield 15, 3) := by decide +kernel
theorem dX0_init_20 : decode cX0_init 20 = .ok (.aload_n 0, 1) := by decide +kernel
theorem dX0_init_21 : decode cX0_init 21 = .ok (.bipush 8, 2) := by decide +kernel
theorem dX0_init_23 : decode cX0_init 23 = .ok (.newarray .int, 2) := by decide +kernel
theorem dX0_init_25 : decode cX0_init 25 = .ok (.putfield 18, 3) := by decide +kernel
theorem dX0_init_28 : decode cX0_init 28 = .ok (.aload_n 0, 1) := by decide +kernel
theorem dX0_init_29 : decode cX0_init 29 = .ok (.bipush 8, 2) := by decide +kernel
theorem dX0_init_31 : decode cX0_init 31 = .ok (.newarray .int, 2) := by decide +kernel
theorem dX0_init_33 : decode cX0_init 33 = .ok (.putfield 21, 3) := by decide +kernel
theorem dX0_init_36 : decode cX0_init 36 = .ok (.aload_n 0, 1) := by decide +kernel
theorem dX0_init_37 : decode cX0_init 37 = .ok (.bipush 8, 2) := by decide +kernel
theorem dX0_init_39 : decode cX0_init 39 = .ok (.newarray .int, 2) := by decide +kernel
theorem dX0_init_41 : decode cX0_init 41 = .ok (.putfield 24, 3) := by decide +kernel
theorem dX0_init_44 : decode cX0_init 44 = .ok (.aload_n 0, 1) := by decide +kernel
theorem dX0_init_45 : decode cX0_init 45 = .ok (.bipush 8, 2) := by decide +kernel
theorem dX0_init_47 : decode cX0_init 47 = .ok (.newarray .int, 2) := by decide +kernel
theorem dX0_init_49 : decode cX0_init 49 = .ok (.putfield 27, 3) := by decide +kernel
theorem dX0_init_52 : decode cX0_init 52 = .ok (.aload_n 0, 1) := by decide +kernel
theorem dX0_init_53 : decode cX0_init 53 = .ok (.bipush 8, 2) := by decide +kernel
theorem dX0_init_55 : decode cX0_init 55 = .ok (.newarray .int, 2) := by decide +kernel
theorem dX0_init_57 : decode cX0_init 57 = .ok (.putfield 30, 3) := by decide +kernel
theorem dX0_init_60 : decode cX0_init 60 = .ok (.aload_n 0, 1) := by decide +kernel
theorem dX0_init_61 : decode cX0_init 61 = .ok (.invokevirtual 33, 3) := by decide +kernel
theorem dX0_init_64 : decode cX0_init 64 = .ok (.return_, 1) := by decide +kernel
theorem dX0_beginAnew_0 : decode cX0_beginAnew 0 = .ok (.aload_n 0, 1) := by decide +kernel
theorem dX0_beginAnew_1 : decode cX0_beginAnew 1 = .ok (.iconst 0, 1) := by decide +kernel
theorem dX0_beginAnew_2 : decode cX0_beginAnew 2 = .ok (.putfield 36, 3) := by decide +kernel
theorem dX0_beginAnew_5 : decode cX0_beginAnew 5 = .ok (.aload_n 0, 1) := by decide +kernel
theorem dX0_beginAnew_6 : decode cX0_beginAnew 6 = .ok (.iconst 0, 1) := by decide +kernel
theorem dX0_beginAnew_7 : decode cX0_beginAnew 7 = .ok (.putfield 40, 3) := by decide +kernel
theorem dX0_beginAnew_10 : decode cX0_beginAnew 10 = .ok (.aload_n 0, 1) := by decide +kernel
theorem dX0_beginAnew_11 : decode cX0_beginAnew 11 = .ok (.invokevirtual 33, 3) := by decide +kernel
theorem dX0_beginAnew_14 : decode cX0_beginAnew 14 = .ok (.return_, 1) := by decide +kernel
theorem dX0_startOver_0 : decode cX0_startOver 0 = .ok (.aload_n 0, 1) := by decide +kernel
theorem dX0_startOver_1 : decode cX0_startOver 1 = .ok (.iconst 0, 1) := by decide +kernel
theorem dX0_startOver_2 : decode cX0_startOver 2 = .ok (.putfield 43, 3) := by decide +kernel
theorem dX0_startOver_5 : decode cX0_startOver 5 = .ok (.aload_n 0, 1) := by decide +kernel
theorem dX0_startOver_6 : decode cX0_startOver 6 = .ok (.iconst 0, 1) := by decide +kernel
theorem dX0_startOver_7 : decode cX0_startOver 7 = .ok (.putfield 46, 3) := by decide +kernel
theorem dX0_startOver_10 : decode cX0_startOver 10 = .ok (.iconst 0, 1) := by decide +kernel
theorem dX0_startOver_11 : decode cX0_startOver 11 = .ok (.istore_n 1, 1) := by decide +kernel
theorem dX0_startOver_12 : decode cX0_startOver 12 = .ok (.iload_n 1, 1) := by decide +kernel
theorem dX0_startOver_13 : decode cX0_startOver 13 = .ok (.bipush 8, 2) := by decide +kernel
theorem dX0_startOver_15 : decode cX0_startOver 15 = .ok (.if_icmp .ge 30, 3) := by decide +kernel
theorem dX0_startOver_18 : decode cX0_startOver 18 = .ok (.aload_n 0, 1) := by decide +kernel
theorem dX0_startOver_19 : decode cX0_startOver 19 = .ok (.getfield 24, 3) := by decide +kernel
theorem dX0_startOver_22 : decode cX0_startOver 22 = .ok (.iload_n 1, 1) := by decide +kernel
theorem dX0_startOver_23 : decode cX0_startOver 23 = .ok (.iconst (-1), 1) := by decide +kernel
theorem dX0_startOver_24 : decode cX0_startOver 24 = .ok (.iastore, 1) := by decide +kernel
theorem dX0_startOver_25 : decode cX0_startOver 25 = .ok (.aload_n 0, 1) := by decide +kernel
theorem dX0_startOver_26 : decode cX0_startOver 26 = .ok (.getfield 27, 3) := by decide +kernel
theorem dX0_startOver_29 : decode cX0_startOver 29 = .ok (.iload_n 1, 1) := by decide +kernel
theorem dX0_startOver_30 : decode cX0_startOver 30 = .ok (.iconst (-1), 1) := by decide +kernel
theorem dX0_startOver_31 : decode cX0_startOver 31 = .ok (.iastore, 1) := by decide +kernel
theorem dX0_startOver_32 : decode cX0_startOver 32 = .ok (.aload_n 0, 1) := by decide +kernel
theorem dX0_startOver_33 : decode cX0_startOver 33 = .ok (.getfield 30, 3) := by decide +kernel
theorem dX0_startOver_36 : decode cX0_startOver 36 = .ok (.iload_n 1, 1) := by decide +kernel
theorem dX0_startOver_37 : decode cX0_startOver 37 = .ok (.iconst (-1), 1) := by decide +kernel
theorem dX0_startOver_38 : decode cX0_startOver 38 = .ok (.iastore, 1) := by decide +kernel
theorem dX0_startOver_39 : decode cX0_startOver 39 = .ok (.iinc 1 1, 3) := by decide +kernel
theorem dX0_startOver_42 : decode cX0_startOver 42 = .ok (.goto (-30), 3) := by decide +kernel
theorem dX0_startOver_45 : decode cX0_startOver 45 = .ok (.return_, 1) := by decide +kernel
theorem dX0_become_0 : decode cX0_become 0 = .ok (.aload_n 0, 1) := by decide +kernel
theorem dX0_become_1 : decode cX0_become 1 = .ok (.aload_n 1, 1) := by decide +kernel
theorem dX0_become_2 : decode cX0_become 2 = .ok (.getfield 36, 3) := by decide +kernel
theorem dX0_become_5 : decode cX0_become 5 = .ok (.putfield 36, 3) := by decide +kernel
theorem dX0_become_8 : decode cX0_become 8 = .ok (.aload_n 0, 1) := by decide +kernel
theorem dX0_become_9 : decode cX0_become 9 = .ok (.aload_n 1, 1) := by decide +kernel
theorem dX0_become_10 : decode cX0_become 10 = .ok (.getfield 43, 3) := by decide +kernel
theorem dX0_become_13 : decode cX0_become 13 = .ok (.putfield 43, 3) := by decide +kernel
theorem dX0_become_16 : decode cX0_become 16 = .ok (.aload_n 0, 1) := by decide +kernel
theorem dX0_become_17 : decode cX0_become 17 = .ok (.aload_n 1, 1) := by decide +kernel
theorem dX0_become_18 : decode cX0_become 18 = .ok (.getfield 46, 3) := by decide +kernel
theorem dX0_become_21 : decode cX0_become 21 = .ok (.putfield 46, 3) := by decide +kernel
theorem dX0_become_24 : decode cX0_become 24 = .ok (.aload_n 0, 1) := by decide +kernel
theorem dX0_become_25 : decode cX0_become 25 = .ok (.aload_n 1, 1) := by decide +kernel
theorem dX0_become_26 : decode cX0_become 26 = .ok (.getfield 40, 3) := by decide +kernel
theorem dX0_become_29 : decode cX0_become 29 = .ok (.putfield 40, 3) := by decide +kernel
theorem dX0_become_32 : decode cX0_become 32 = .ok (.iconst 0, 1) := by decide +kernel
theorem dX0_become_33 : decode cX0_become 33 = .ok (.istore_n 2, 1) := by decide +kernel
theorem dX0_become_34 : decode cX0_become 34 = .ok (.iload_n 2, 1) := by decide +kernel
theorem dX0_become_35 : decode cX0_become 35 = .ok (.bipush 8, 2) := by decide +kernel
theorem dX0_become_37 : decode cX0_become 37 = .ok (.if_icmp .ge 57, 3) := by decide +kernel
theorem dX0_become_40 : decode cX0_become 40 = .ok (.aload_n 0, 1) := by decide +kernel
theorem dX0_become_41 : decode cX0_become 41 = .ok (.getfield 9, 3) := by decide +kernel
theorem dX0_become_44 : decode cX0_become 44 = .ok (.iload_n 2, 1) := by decide +kernel
theorem dX0_become_45 : decode cX0_become 45 = .ok (.aload_n 1, 1) := by decide +kernel
theorem dX0_become_46 : decode cX0_become 46 = .ok (.getfield 9, 3) := by decide +kernel
theorem dX0_become_49 : decode cX0_become 49 = .ok (.iload_n 2, 1) := by decide +kernel
theorem dX0_become_50 : decode cX0_become 50 = .ok (.iaload, 1) := by decide +kernel
theorem dX0_become_51 : decode cX0_become 51 = .ok (.iastore, 1) := by decide +kernel
theorem dX0_become_52 : decode cX0_become 52 = .ok (.aload_n 0, 1) := by decide +kernel
theorem dX0_become_53 : decode cX0_become 53 = .ok (.getfield 15, 3) := by decide +kernel
theorem dX0_become_56 : decode cX0_become 56 = .ok (.iload_n 2, 1) := by decide +kernel
theorem dX0_become_57 : decode cX0_become 57 = .ok (.aload_n 1, 1) := by decide +kernel
theorem dX0_become_58 : decode cX0_become 58 = .ok (.getfield 15, 3) := by decide +kernel
theorem dX0_become_61 : decode cX0_become 61 = .ok (.iload_n 2, 1) := by decide +kernel
theorem dX0_become_62 : decode cX0_become 62 = .ok (.iaload, 1) := by decide +kernel
theorem dX0_become_63 : decode cX0_become 63 = .ok (.iastore, 1) := by decide +kernel
theorem dX0_become_64 : decode cX0_become 64 = .ok (.aload_n 0, 1) := by decide +kernel
theorem dX0_become_65 : decode cX0_become 65 = .ok (.getfield 18, 3) := by decide +kernel
theorem dX0_become_68 : decode cX0_become 68 = .ok (.iload_n 2, 1) := by decide +kernel
theorem dX0_become_69 : decode cX0_become 69 = .ok (.aload_n 1, 1) := by decide +kernel
theorem dX0_become_70 : decode cX0_become 70 = .ok (.getfield 18, 3) := by decide +kernel
theorem dX0_become_73 : decode cX0_become 73 = .ok (.iload_n 2, 1) := by decide +kernel
theorem dX0_become_74 : decode cX0_become 74 = .ok (.iaload, 1) := by decide +kernel
theorem dX0_become_75 : decode cX0_become 75 = .ok (.iastore, 1) := by decide +kernel
theorem dX0_become_76 : decode cX0_become 76 = .ok (.aload_n 0, 1) := by decide +kernel
theorem dX0_become_77 : decode cX0_become 77 = .ok (.getfield 21, 3) := by decide +kernel
theorem dX0_become_80 : decode cX0_become 80 = .ok (.iload_n 2, 1) := by decide +kernel
theorem dX0_become_81 : decode cX0_become 81 = .ok (.aload_n 1, 1) := by decide +kernel
theorem dX0_become_82 : decode cX0_become 82 = .ok (.getfield 21, 3) := by decide +kernel
theorem dX0_become_85 : decode cX0_become 85 = .ok (.iload_n 2, 1) := by decide +kernel
theorem dX0_become_86 : decode cX0_become 86 = .ok (.iaload, 1) := by decide +kernel
theorem dX0_become_87 : decode cX0_become 87 = .ok (.iastore, 1) := by decide +kernel
theorem dX0_become_88 : decode cX0_become 88 = .ok (.iinc 2 1, 3) := by decide +kernel
theorem dX0_become_91 : decode cX0_become 91 = .ok (.goto (-57), 3) := by decide +kernel
theorem dX0_become_94 : decode cX0_become 94 = .ok (.iconst 0, 1) := by decide +kernel
theorem dX0_become_95 : decode cX0_become 95 = .ok (.istore_n 2, 1) := by decide +kernel
theorem dX0_become_96 : decode cX0_become 96 = .ok (.iload_n 2, 1) := by decide +kernel
theorem dX0_become_97 : decode cX0_become 97 = .ok (.bipush 8, 2) := by decide +kernel
theorem dX0_become_99 : decode cX0_become 99 = .ok (.if_icmp .ge 45, 3) := by decide +kernel
theorem dX0_become_102 : decode cX0_become 102 = .ok (.aload_n 0, 1) := by decide +kernel
theorem dX0_become_103 : decode cX0_become 103 = .ok (.getfield 24, 3) := by decide +kernel
theorem dX0_become_106 : decode cX0_become 106 = .ok (.iload_n 2, 1) := by decide +kernel
theorem dX0_become_107 : decode cX0_become 107 = .ok (.aload_n 1, 1) := by decide +kernel
theorem dX0_become_108 : decode cX0_become 108 = .ok (.getfield 24, 3) := by decide +kernel
theorem dX0_become_111 : decode cX0_become 111 = .ok (.iload_n 2, 1) := by decide +kernel
theorem dX0_become_112 : decode cX0_become 112 = .ok (.iaload, 1) := by decide +kernel
theorem dX0_become_113 : decode cX0_become 113 = .ok (.iastore, 1) := by decide +kernel
theorem dX0_become_114 : decode cX0_become 114 = .ok (.aload_n 0, 1) := by decide +kernel
theorem dX0_become_115 : decode cX0_become 115 = .ok (.getfield 27, 3) := by decide +kernel
theorem dX0_become_118 : decode cX0_become 118 = .ok (.iload_n 2, 1) := by decide +kernel
theorem dX0_become_119 : decode cX0_become 119 = .ok (.aload_n 1, 1) := by decide +kernel
theorem dX0_become_120 : decode cX0_become 120 = .ok (.getfield 27, 3) := by decide +kernel
theorem dX0_become_123 : decode cX0_become 123 = .ok (.iload_n 2, 1) := by decide +kernel
theorem dX0_become_124 : decode cX0_become 124 = .ok (.iaload, 1) := by decide +kernel
theorem dX0_become_125 : decode cX0_become 125 = .ok (.iastore, 1) := by decide +kernel
theorem dX0_become_126 : decode cX0_become 126 = .ok (.aload_n 0, 1) := by decide +kernel
theorem dX0_become_127 : decode cX0_become 127 = .ok (.getfield 30, 3) := by decide +kernel
theorem dX0_become_130 : decode cX0_become 130 = .ok (.iload_n 2, 1) := by decide +kernel
theorem dX0_become_131 : decode cX0_become 131 = .ok (.aload_n 1, 1) := by decide +kernel
theorem dX0_become_132 : decode cX0_become 132 = .ok (.getfield 30, 3) := by decide +kernel
theorem dX0_become_135 : decode cX0_become 135 = .ok (.iload_n 2, 1) := by decide +kernel
theorem dX0_become_136 : decode cX0_become 136 = .ok (.iaload, 1) := by decide +kernel
theorem dX0_become_137 : decode cX0_become 137 = .ok (.iastore, 1) := by decide +kernel
theorem dX0_become_138 : decode cX0_become 138 = .ok (.iinc 2 1, 3) := by decide +kernel
theorem dX0_become_141 : decode cX0_become 141 = .ok (.goto (-45), 3) := by decide +kernel
theorem dX0_become_144 : decode cX0_become 144 = .ok (.return_, 1) := by decide +kernel
theorem dX0_addStep_0 : decode cX0_addStep 0 = .ok (.aload_n 0, 1) := by decide +kernel
theorem dX0_addStep_1 : decode cX0_addStep 1 = .ok (.getfield 36, 3) := by decide +kernel
theorem dX0_addStep_4 : decode cX0_addStep 4 = .ok (.bipush 8, 2) := by decide +kernel
theorem dX0_addStep_6 : decode cX0_addStep 6 = .ok (.if_icmp .lt 4, 3) := by decide +kernel
theorem dX0_addStep_9 : decode cX0_addStep 9 = .ok (.return_, 1) := by decide +kernel
theorem dX0_addStep_10 : decode cX0_addStep 10 = .ok (.aload_n 0, 1) := by decide +kernel
theorem dX0_addStep_11 : decode cX0_addStep 11 = .ok (.getfield 9, 3) := by decide +kernel
theorem dX0_addStep_14 : decode cX0_addStep 14 = .ok (.aload_n 0, 1) := by decide +kernel
theorem dX0_addStep_15 : decode cX0_addStep 15 = .ok (.getfield 36, 3) := by decide +kernel
theorem dX0_addStep_18 : decode cX0_addStep 18 = .ok (.iload_n 1, 1) := by decide +kernel
theorem dX0_addStep_19 : decode cX0_addStep 19 = .ok (.iastore, 1) := by decide +kernel
theorem dX0_addStep_20 : decode cX0_addStep 20 = .ok (.aload_n 0, 1) := by decide +kernel
theorem dX0_addStep_21 : decode cX0_addStep 21 = .ok (.getfield 15, 3) := by decide +kernel
theorem dX0_addStep_24 : decode cX0_addStep 24 = .ok (.aload_n 0, 1) := by decide +kernel
theorem dX0_addStep_25 : decode cX0_addStep 25 = .ok (.getfield 36, 3) := by decide +kernel
theorem dX0_addStep_28 : decode cX0_addStep 28 = .ok (.iload_n 2, 1) := by decide +kernel
theorem dX0_addStep_29 : decode cX0_addStep 29 = .ok (.iastore, 1) := by decide +kernel
theorem dX0_addStep_30 : decode cX0_addStep 30 = .ok (.aload_n 0, 1) := by decide +kernel
theorem dX0_addStep_31 : decode cX0_addStep 31 = .ok (.getfield 18, 3) := by decide +kernel
theorem dX0_addStep_34 : decode cX0_addStep 34 = .ok (.aload_n 0, 1) := by decide +kernel
theorem dX0_addStep_35 : decode cX0_addStep 35 = .ok (.getfield 36, 3) := by decide +kernel
theorem dX0_addStep_38 : decode cX0_addStep 38 = .ok (.iload_n 3, 1) := by decide +kernel
theorem dX0_addStep_39 : decode cX0_addStep 39 = .ok (.iastore, 1) := by decide +kernel
theorem dX0_addStep_40 : decode cX0_addStep 40 = .ok (.aload_n 0, 1) := by decide +kernel
theorem dX0_addStep_41 : decode cX0_addStep 41 = .ok (.getfield 21, 3) := by decide +kernel
theorem dX0_addStep_44 : decode cX0_addStep 44 = .ok (.aload_n 0, 1) := by decide +kernel
theorem dX0_addStep_45 : decode cX0_addStep 45 = .ok (.getfield 36, 3) := by decide +kernel
theorem dX0_addStep_48 : decode cX0_addStep 48 = .ok (.iload 4, 2) := by decide +kernel
theorem dX0_addStep_50 : decode cX0_addStep 50 = .ok (.iastore, 1) := by decide +kernel
theorem dX0_addStep_51 : decode cX0_addStep 51 = .ok (.aload_n 0, 1) := by decide +kernel
theorem dX0_addStep_52 : decode cX0_addStep 52 = .ok (.dup, 1) := by decide +kernel
theorem dX0_addStep_53 : decode cX0_addStep 53 = .ok (.getfield 36, 3) := by decide +kernel
theorem dX0_addStep_56 : decode cX0_addStep 56 = .ok (.iconst 1, 1) := by decide +kernel
theorem dX0_addStep_57 : decode cX0_addStep 57 = .ok (.iadd, 1) := by decide +kernel
theorem dX0_addStep_58 : decode cX0_addStep 58 = .ok (.putfield 36, 3) := by decide +kernel
theorem dX0_addStep_61 : decode cX0_addStep 61 = .ok (.return_, 1) := by decide +kernel
theorem dX0_isAtWork_0 : decode cX0_isAtWork 0 = .ok (.aload_n 0, 1) := by decide +kernel
theorem dX0_isAtWork_1 : decode cX0_isAtWork 1 = .ok (.getfield 46, 3) := by decide +kernel
theorem dX0_isAtWork_4 : decode cX0_isAtWork 4 = .ok (.ifCond .ne 14, 3) := by decide +kernel
theorem dX0_isAtWork_7 : decode cX0_isAtWork 7 = .ok (.aload_n 0, 1) := by decide +kernel
theorem dX0_isAtWork_8 : decode cX0_isAtWork 8 = .ok (.getfield 36, 3) := by decide +kernel
theorem dX0_isAtWork_11 : decode cX0_isAtWork 11 = .ok (.ifCond .le 7, 3) := by decide +kernel
theorem dX0_isAtWork_14 : decode cX0_isAtWork 14 = .ok (.iconst 1, 1) := by decide +kernel
theorem dX0_isAtWork_15 : decode cX0_isAtWork 15 = .ok (.goto 4, 3) := by decide +kernel
theorem dX0_isAtWork_18 : decode cX0_isAtWork 18 = .ok (.iconst 0, 1) := by decide +kernel
theorem dX0_isAtWork_19 : decode cX0_isAtWork 19 = .ok (.ireturn, 1) := by decide +kernel
theorem dX0_remembers_0 : decode cX0_remembers 0 = .ok (.aload_n 0, 1) := by decide +kernel
theorem dX0_remembers_1 : decode cX0_remembers 1 = .ok (.getfield 24, 3) := by decide +kernel
theorem dX0_remembers_4 : decode cX0_remembers 4 = .ok (.iload_n 1, 1) := by decide +kernel
theorem dX0_remembers_5 : decode cX0_remembers 5 = .ok (.iaload, 1) := by decide +kernel
theorem dX0_remembers_6 : decode cX0_remembers 6 = .ok (.iconst (-1), 1) := by decide +kernel
theorem dX0_remembers_7 : decode cX0_remembers 7 = .ok (.if_icmp .eq 7, 3) := by decide +kernel
theorem dX0_remembers_10 : decode cX0_remembers 10 = .ok (.iconst 1, 1) := by decide +kernel
theorem dX0_remembers_11 : decode cX0_remembers 11 = .ok (.goto 4, 3) := by decide +kernel
theorem dX0_remembers_14 : decode cX0_remembers 14 = .ok (.iconst 0, 1) := by decide +kernel
theorem dX0_remembers_15 : decode cX0_remembers 15 = .ok (.ireturn, 1) := by decide +kernel
theorem dX0_hasWritten_0 : decode cX0_hasWritten 0 = .ok (.aload_n 0, 1) := by decide +kernel
theorem dX0_hasWritten_1 : decode cX0_hasWritten 1 = .ok (.getfield 30, 3) := by decide +kernel
theorem dX0_hasWritten_4 : decode cX0_hasWritten 4 = .ok (.iload_n 1, 1) := by decide +kernel
theorem dX0_hasWritten_5 : decode cX0_hasWritten 5 = .ok (.iaload, 1) := by decide +kernel
theorem dX0_hasWritten_6 : decode cX0_hasWritten 6 = .ok (.iconst (-1), 1) := by decide +kernel
theorem dX0_hasWritten_7 : decode cX0_hasWritten 7 = .ok (.if_icmp .eq 7, 3) := by decide +kernel
theorem dX0_hasWritten_10 : decode cX0_hasWritten 10 = .ok (.iconst 1, 1) := by decide +kernel
theorem dX0_hasWritten_11 : decode cX0_hasWritten 11 = .ok (.goto 4, 3) := by decide +kernel
theorem dX0_hasWritten_14 : decode cX0_hasWritten 14 = .ok (.iconst 0, 1) := by decide +kernel
theorem dX0_hasWritten_15 : decode cX0_hasWritten 15 = .ok (.ireturn, 1) := by decide +kernel
theorem dX0_countRemembered_0 : decode cX0_countRemembered 0 = .ok (.iconst 0, 1) := by decide +kernel
theorem dX0_countRemembered_1 : decode cX0_countRemembered 1 = .ok (.istore_n 1, 1) := by decide +kernel
theorem dX0_countRemembered_2 : decode cX0_countRemembered 2 = .ok (.iconst 0, 1) := by decide +kernel
theorem dX0_countRemembered_3 : decode cX0_countRemembered 3 = .ok (.istore_n 2, 1) := by decide +kernel
theorem dX0_countRemembered_4 : decode cX0_countRemembered 4 = .ok (.iload_n 2, 1) := by decide +kernel
theorem dX0_countRemembered_5 : decode cX0_countRemembered 5 = .ok (.bipush 8, 2) := by decide +kernel
theorem dX0_countRemembered_7 : decode cX0_countRemembered 7 = .ok (.if_icmp .ge 25, 3) := by decide +kernel
theorem dX0_countRemembered_10 : decode cX0_countRemembered 10 = .ok (.iload_n 1, 1) := by decide +kernel
theorem dX0_countRemembered_11 : decode cX0_countRemembered 11 = .ok (.aload_n 0, 1) := by decide +kernel
theorem dX0_countRemembered_12 : decode cX0_countRemembered 12 = .ok (.iload_n 2, 1) := by decide +kernel
theorem dX0_countRemembered_13 : decode cX0_countRemembered 13 = .ok (.invokevirtual 50, 3) := by decide +kernel
theorem dX0_countRemembered_16 : decode cX0_countRemembered 16 = .ok (.ifCond .eq 7, 3) := by decide +kernel
theorem dX0_countRemembered_19 : decode cX0_countRemembered 19 = .ok (.iconst 1, 1) := by decide +kernel
theorem dX0_countRemembered_20 : decode cX0_countRemembered 20 = .ok (.goto 4, 3) := by decide +kernel
theorem dX0_countRemembered_23 : decode cX0_countRemembered 23 = .ok (.iconst 0, 1) := by decide +kernel
theorem dX0_countRemembered_24 : decode cX0_countRemembered 24 = .ok (.iadd, 1) := by decide +kernel
theorem dX0_countRemembered_25 : decode cX0_countRemembered 25 = .ok (.istore_n 1, 1) := by decide +kernel
theorem dX0_countRemembered_26 : decode cX0_countRemembered 26 = .ok (.iinc 2 1, 3) := by decide +kernel
theorem dX0_countRemembered_29 : decode cX0_countRemembered 29 = .ok (.goto (-25), 3) := by decide +kernel
theorem dX0_countRemembered_32 : decode cX0_countRemembered 32 = .ok (.iload_n 1, 1) := by decide +kernel
theorem dX0_countRemembered_33 : decode cX0_countRemembered 33 = .ok (.ireturn, 1) := by decide +kernel
theorem dX0_countWritten_0 : decode cX0_countWritten 0 = .ok (.iconst 0, 1) := by decide +kernel
theorem dX0_countWritten_1 : decode cX0_countWritten 1 = .ok (.istore_n 1, 1) := by decide +kernel
theorem dX0_countWritten_2 : decode cX0_countWritten 2 = .ok (.iconst 0, 1) := by decide +kernel
theorem dX0_countWritten_3 : decode cX0_countWritten 3 = .ok (.istore_n 2, 1) := by decide +kernel
theorem dX0_countWritten_4 : decode cX0_countWritten 4 = .ok (.iload_n 2, 1) := by decide +kernel
theorem dX0_countWritten_5 : decode cX0_countWritten 5 = .ok (.bipush 8, 2) := by decide +kernel
theorem dX0_countWritten_7 : decode cX0_countWritten 7 = .ok (.if_icmp .ge 25, 3) := by decide +kernel
theorem dX0_countWritten_10 : decode cX0_countWritten 10 = .ok (.iload_n 1, 1) := by decide +kernel
theorem dX0_countWritten_11 : decode cX0_countWritten 11 = .ok (.aload_n 0, 1) := by decide +kernel
theorem dX0_countWritten_12 : decode cX0_countWritten 12 = .ok (.iload_n 2, 1) := by decide +kernel
theorem dX0_countWritten_13 : decode cX0_countWritten 13 = .ok (.invokevirtual 54, 3) := by decide +kernel
theorem dX0_countWritten_16 : decode cX0_countWritten 16 = .ok (.ifCond .eq 7, 3) := by decide +kernel
theorem dX0_countWritten_19 : decode cX0_countWritten 19 = .ok (.iconst 1, 1) := by decide +kernel
theorem dX0_countWritten_20 : decode cX0_countWritten 20 = .ok (.goto 4, 3) := by decide +kernel
theorem dX0_countWritten_23 : decode cX0_countWritten 23 = .ok (.iconst 0, 1) := by decide +kernel
theorem dX0_countWritten_24 : decode cX0_countWritten 24 = .ok (.iadd, 1) := by decide +kernel
theorem dX0_countWritten_25 : decode cX0_countWritten 25 = .ok (.istore_n 1, 1) := by decide +kernel
theorem dX0_countWritten_26 : decode cX0_countWritten 26 = .ok (.iinc 2 1, 3) := by decide +kernel
theorem dX0_countWritten_29 : decode cX0_countWritten 29 = .ok (.goto (-25), 3) := by decide +kernel
theorem dX0_countWritten_32 : decode cX0_countWritten 32 = .ok (.iload_n 1, 1) := by decide +kernel
theorem dX0_countWritten_33 : decode cX0_countWritten 33 = .ok (.ireturn, 1) := by decide +kernel
theorem dX0_slipFact_0 : decode cX0_slipFact 0 = .ok (.iload_n 2, 1) := by decide +kernel
theorem dX0_slipFact_1 : decode cX0_slipFact 1 = .ok (.lookupswitch 41 #[(0, 27), (1, 34)], 27) := by decide +kernel
theorem dX0_slipFact_28 : decode cX0_slipFact 28 = .ok (.aload_n 0, 1) := by decide +kernel
theorem dX0_slipFact_29 : decode cX0_slipFact 29 = .ok (.getfield 24, 3) := by decide +kernel
theorem dX0_slipFact_32 : decode cX0_slipFact 32 = .ok (.iload_n 1, 1) := by decide +kernel
theorem dX0_slipFact_33 : decode cX0_slipFact 33 = .ok (.iaload, 1) := by decide +kernel
theorem dX0_slipFact_34 : decode cX0_slipFact 34 = .ok (.ireturn, 1) := by decide +kernel
theorem dX0_slipFact_35 : decode cX0_slipFact 35 = .ok (.aload_n 0, 1) := by decide +kernel
theorem dX0_slipFact_36 : decode cX0_slipFact 36 = .ok (.getfield 27, 3) := by decide +kernel
theorem dX0_slipFact_39 : decode cX0_slipFact 39 = .ok (.iload_n 1, 1) := by decide +kernel
theorem dX0_slipFact_40 : decode cX0_slipFact 40 = .ok (.iaload, 1) := by decide +kernel
theorem dX0_slipFact_41 : decode cX0_slipFact 41 = .ok (.ireturn, 1) := by decide +kernel
theorem dX0_slipFact_42 : decode cX0_slipFact 42 = .ok (.aload_n 0, 1) := by decide +kernel
theorem dX0_slipFact_43 : decode cX0_slipFact 43 = .ok (.getfield 30, 3) := by decide +kernel
theorem dX0_slipFact_46 : decode cX0_slipFact 46 = .ok (.iload_n 1, 1) := by decide +kernel
theorem dX0_slipFact_47 : decode cX0_slipFact 47 = .ok (.iaload, 1) := by decide +kernel
theorem dX0_slipFact_48 : decode cX0_slipFact 48 = .ok (.ireturn, 1) := by decide +kernel
theorem dX0_stepFact_0 : decode cX0_stepFact 0 = .ok (.iload_n 2, 1) := by decide +kernel
theorem dX0_stepFact_1 : decode cX0_stepFact 1 = .ok (.tableswitch 48 0 2 #[27, 34, 41], 27) := by decide +kernel
theorem dX0_stepFact_28 : decode cX0_stepFact 28 = .ok (.aload_n 0, 1) := by decide +kernel
theorem dX0_stepFact_29 : decode cX0_stepFact 29 = .ok (.getfield 9, 3) := by decide +kernel
theorem dX0_stepFact_32 : decode cX0_stepFact 32 = .ok (.iload_n 1, 1) := by decide +kernel
theorem dX0_stepFact_33 : decode cX0_stepFact 33 = .ok (.iaload, 1) := by decide +kernel
theorem dX0_stepFact_34 : decode cX0_stepFact 34 = .ok (.ireturn, 1) := by decide +kernel
theorem dX0_stepFact_35 : decode cX0_stepFact 35 = .ok (.aload_n 0, 1) := by decide +kernel
theorem dX0_stepFact_36 : decode cX0_stepFact 36 = .ok (.getfield 15, 3) := by decide +kernel
theorem dX0_stepFact_39 : decode cX0_stepFact 39 = .ok (.iload_n 1, 1) := by decide +kernel
theorem dX0_stepFact_40 : decode cX0_stepFact 40 = .ok (.iaload, 1) := by decide +kernel
theorem dX0_stepFact_41 : decode cX0_stepFact 41 = .ok (.ireturn, 1) := by decide +kernel
theorem dX0_stepFact_42 : decode cX0_stepFact 42 = .ok (.aload_n 0, 1) := by decide +kernel
theorem dX0_stepFact_43 : decode cX0_stepFact 43 = .ok (.getfield 18, 3) := by decide +kernel
theorem dX0_stepFact_46 : decode cX0_stepFact 46 = .ok (.iload_n 1, 1) := by decide +kernel
theorem dX0_stepFact_47 : decode cX0_stepFact 47 = .ok (.iaload, 1) := by decide +kernel
theorem dX0_stepFact_48 : decode cX0_stepFact 48 = .ok (.ireturn, 1) := by decide +kernel
theorem dX0_stepFact_49 : decode cX0_stepFact 49 = .ok (.aload_n 0, 1) := by decide +kernel
theorem dX0_stepFact_50 : decode cX0_stepFact 50 = .ok (.getfield 21, 3) := by decide +kernel
theorem dX0_stepFact_53 : decode cX0_stepFact 53 = .ok (.iload_n 1, 1) := by decide +kernel
theorem dX0_stepFact_54 : decode cX0_stepFact 54 = .ok (.iaload, 1) := by decide +kernel
theorem dX0_stepFact_55 : decode cX0_stepFact 55 = .ok (.ireturn, 1) := by decide +kernel
theorem dX1_init_0 : decode cX1_init 0 = .ok (.aload_n 0, 1) := by decide +kernel
theorem dX1_init_1 : decode cX1_init 1 = .ok (.invokespecial 3, 3) := by decide +kernel
theorem dX1_init_4 : decode cX1_init 4 = .ok (.aload_n 0, 1) := by decide +kernel
theorem dX1_init_5 : decode cX1_init 5 = .ok (.bipush 6, 2) := by decide +kernel
theorem dX1_init_7 : decode cX1_init 7 = .ok (.putfield 9, 3) := by decide +kernel
theorem dX1_init_10 : decode cX1_init 10 = .ok (.aload_n 0, 1) := by decide +kernel
theorem dX1_init_11 : decode cX1_init 11 = .ok (.bipush 8, 2) := by decide +kernel
theorem dX1_init_13 : decode cX1_init 13 = .ok (.newarray .int, 2) := by decide +kernel
theorem dX1_init_15 : decode cX1_init 15 = .ok (.putfield 15, 3) := by decide +kernel
theorem dX1_init_18 : decode cX1_init 18 = .ok (.aload_n 0, 1) := by decide +kernel
theorem dX1_init_19 : decode cX1_init 19 = .ok (.bipush 8, 2) := by decide +kernel
theorem dX1_init_21 : decode cX1_init 21 = .ok (.newarray .int, 2) := by decide +kernel
theorem dX1_init_23 : decode cX1_init 23 = .ok (.putfield 19, 3) := by decide +kernel
theorem dX1_init_26 : decode cX1_init 26 = .ok (.aload_n 0, 1) := by decide +kernel
theorem dX1_init_27 : decode cX1_init 27 = .ok (.bipush 6, 2) := by decide +kernel
theorem dX1_init_29 : decode cX1_init 29 = .ok (.anewarray 22, 3) := by decide +kernel
theorem dX1_init_32 : decode cX1_init 32 = .ok (.putfield 24, 3) := by decide +kernel
theorem dX1_init_35 : decode cX1_init 35 = .ok (.iconst 0, 1) := by decide +kernel
theorem dX1_init_36 : decode cX1_init 36 = .ok (.istore_n 1, 1) := by decide +kernel
theorem dX1_init_37 : decode cX1_init 37 = .ok (.iload_n 1, 1) := by decide +kernel
theorem dX1_init_38 : decode cX1_init 38 = .ok (.bipush 6, 2) := by decide +kernel
theorem dX1_init_40 : decode cX1_init 40 = .ok (.if_icmp .ge 22, 3) := by decide +kernel
theorem dX1_init_43 : decode cX1_init 43 = .ok (.aload_n 0, 1) := by decide +kernel
theorem dX1_init_44 : decode cX1_init 44 = .ok (.getfield 24, 3) := by decide +kernel
theorem dX1_init_47 : decode cX1_init 47 = .ok (.iload_n 1, 1) := by decide +kernel
theorem dX1_init_48 : decode cX1_init 48 = .ok (.new 22, 3) := by decide +kernel
theorem dX1_init_51 : decode cX1_init 51 = .ok (.dup, 1) := by decide +kernel
theorem dX1_init_52 : decode cX1_init 52 = .ok (.invokespecial 28, 3) := by decide +kernel
theorem dX1_init_55 : decode cX1_init 55 = .ok (.aastore, 1) := by decide +kernel
theorem dX1_init_56 : decode cX1_init 56 = .ok (.iinc 1 1, 3) := by decide +kernel
theorem dX1_init_59 : decode cX1_init 59 = .ok (.goto (-22), 3) := by decide +kernel
theorem dX1_init_62 : decode cX1_init 62 = .ok (.aload_n 0, 1) := by decide +kernel
theorem dX1_init_63 : decode cX1_init 63 = .ok (.bipush 10, 2) := by decide +kernel
theorem dX1_init_65 : decode cX1_init 65 = .ok (.newarray .int, 2) := by decide +kernel
theorem dX1_init_67 : decode cX1_init 67 = .ok (.putfield 29, 3) := by decide +kernel
theorem dX1_init_70 : decode cX1_init 70 = .ok (.aload_n 0, 1) := by decide +kernel
theorem dX1_init_71 : decode cX1_init 71 = .ok (.bipush 10, 2) := by decide +kernel
theorem dX1_init_73 : decode cX1_init 73 = .ok (.newarray .int, 2) := by decide +kernel
theorem dX1_init_75 : decode cX1_init 75 = .ok (.putfield 32, 3) := by decide +kernel
theorem dX1_init_78 : decode cX1_init 78 = .ok (.aload_n 0, 1) := by decide +kernel
theorem dX1_init_79 : decode cX1_init 79 = .ok (.bipush 10, 2) := by decide +kernel
theorem dX1_init_81 : decode cX1_init 81 = .ok (.newarray .int, 2) := by decide +kernel
theorem dX1_init_83 : decode cX1_init 83 = .ok (.putfield 35, 3) := by decide +kernel
theorem dX1_init_86 : decode cX1_init 86 = .ok (.return_, 1) := by decide +kernel
theorem dX1_beginAnew_0 : decode cX1_beginAnew 0 = .ok (.aload_n 0, 1) := by decide +kernel
theorem dX1_beginAnew_1 : decode cX1_beginAnew 1 = .ok (.iload_n 1, 1) := by decide +kernel
theorem dX1_beginAnew_2 : decode cX1_beginAnew 2 = .ok (.putfield 9, 3) := by decide +kernel
theorem dX1_beginAnew_5 : decode cX1_beginAnew 5 = .ok (.aload_n 0, 1) := by decide +kernel
theorem dX1_beginAnew_6 : decode cX1_beginAnew 6 = .ok (.iconst 0, 1) := by decide +kernel
theorem dX1_beginAnew_7 : decode cX1_beginAnew 7 = .ok (.putfield 38, 3) := by decide +kernel
theorem dX1_beginAnew_10 : decode cX1_beginAnew 10 = .ok (.aload_n 0, 1) := by decide +kernel
theorem dX1_beginAnew_11 : decode cX1_beginAnew 11 = .ok (.iconst 0, 1) := by decide +kernel
theorem dX1_beginAnew_12 : decode cX1_beginAnew 12 = .ok (.putfield 41, 3) := by decide +kernel
theorem dX1_beginAnew_15 : decode cX1_beginAnew 15 = .ok (.iconst 0, 1) := by decide +kernel
theorem dX1_beginAnew_16 : decode cX1_beginAnew 16 = .ok (.istore_n 2, 1) := by decide +kernel
theorem dX1_beginAnew_17 : decode cX1_beginAnew 17 = .ok (.iload_n 2, 1) := by decide +kernel
theorem dX1_beginAnew_18 : decode cX1_beginAnew 18 = .ok (.bipush 8, 2) := by decide +kernel
theorem dX1_beginAnew_20 : decode cX1_beginAnew 20 = .ok (.if_icmp .ge 23, 3) := by decide +kernel
theorem dX1_beginAnew_23 : decode cX1_beginAnew 23 = .ok (.aload_n 0, 1) := by decide +kernel
theorem dX1_beginAnew_24 : decode cX1_beginAnew 24 = .ok (.getfield 15, 3) := by decide +kernel
theorem dX1_beginAnew_27 : decode cX1_beginAnew 27 = .ok (.iload_n 2, 1) := by decide +kernel
theorem dX1_beginAnew_28 : decode cX1_beginAnew 28 = .ok (.iconst 0, 1) := by decide +kernel
theorem dX1_beginAnew_29 : decode cX1_beginAnew 29 = .ok (.iastore, 1) := by decide +kernel
theorem dX1_beginAnew_30 : decode cX1_beginAnew 30 = .ok (.aload_n 0, 1) := by decide +kernel
theorem dX1_beginAnew_31 : decode cX1_beginAnew 31 = .ok (.getfield 19, 3) := by decide +kernel
theorem dX1_beginAnew_34 : decode cX1_beginAnew 34 = .ok (.iload_n 2, 1) := by decide +kernel
theorem dX1_beginAnew_35 : decode cX1_beginAnew 35 = .ok (.iconst 0, 1) := by decide +kernel
theorem dX1_beginAnew_36 : decode cX1_beginAnew 36 = .ok (.iastore, 1) := by decide +kernel
theorem dX1_beginAnew_37 : decode cX1_beginAnew 37 = .ok (.iinc 2 1, 3) := by decide +kernel
theorem dX1_beginAnew_40 : decode cX1_beginAnew 40 = .ok (.goto (-23), 3) := by decide +kernel
theorem dX1_beginAnew_43 : decode cX1_beginAnew 43 = .ok (.return_, 1) := by decide +kernel
theorem dX1_become_0 : decode cX1_become 0 = .ok (.aload_n 0, 1) := by decide +kernel
theorem dX1_become_1 : decode cX1_become 1 = .ok (.aload_n 1, 1) := by decide +kernel
theorem dX1_become_2 : decode cX1_become 2 = .ok (.getfield 9, 3) := by decide +kernel
theorem dX1_become_5 : decode cX1_become 5 = .ok (.putfield 9, 3) := by decide +kernel
theorem dX1_become_8 : decode cX1_become 8 = .ok (.aload_n 0, 1) := by decide +kernel
theorem dX1_become_9 : decode cX1_become 9 = .ok (.aload_n 1, 1) := by decide +kernel
theorem dX1_become_10 : decode cX1_become 10 = .ok (.getfield 38, 3) := by decide +kernel
theorem dX1_become_13 : decode cX1_become 13 = .ok (.putfield 38, 3) := by decide +kernel
theorem dX1_become_16 : decode cX1_become 16 = .ok (.aload_n 0, 1) := by decide +kernel
theorem dX1_become_17 : decode cX1_become 17 = .ok (.aload_n 1, 1) := by decide +kernel
theorem dX1_become_18 : decode cX1_become 18 = .ok (.getfield 41, 3) := by decide +kernel
theorem dX1_become_21 : decode cX1_become 21 = .ok (.putfield 41, 3) := by decide +kernel
theorem dX1_become_24 : decode cX1_become 24 = .ok (.iconst 0, 1) := by decide +kernel
theorem dX1_become_25 : decode cX1_become 25 = .ok (.istore_n 2, 1) := by decide +kernel
theorem dX1_become_26 : decode cX1_become 26 = .ok (.iload_n 2, 1) := by decide +kernel
theorem dX1_become_27 : decode cX1_become 27 = .ok (.bipush 8, 2) := by decide +kernel
theorem dX1_become_29 : decode cX1_become 29 = .ok (.if_icmp .ge 33, 3) := by decide +kernel
theorem dX1_become_32 : decode cX1_become 32 = .ok (.aload_n 0, 1) := by decide +kernel
theorem dX1_become_33 : decode cX1_become 33 = .ok (.getfield 15, 3) := by decide +kernel
theorem dX1_become_36 : decode cX1_become 36 = .ok (.iload_n 2, 1) := by decide +kernel
theorem dX1_become_37 : decode cX1_become 37 = .ok (.aload_n 1, 1) := by decide +kernel
theorem dX1_become_38 : decode cX1_become 38 = .ok (.getfield 15, 3) := by decide +kernel
theorem dX1_become_41 : decode cX1_become 41 = .ok (.iload_n 2, 1) := by decide +kernel
theorem dX1_become_42 : decode cX1_become 42 = .ok (.iaload, 1) := by decide +kernel
theorem dX1_become_43 : decode cX1_become 43 = .ok (.iastore, 1) := by decide +kernel
theorem dX1_become_44 : decode cX1_become 44 = .ok (.aload_n 0, 1) := by decide +kernel
theorem dX1_become_45 : decode cX1_become 45 = .ok (.getfield 19, 3) := by decide +kernel
theorem dX1_become_48 : decode cX1_become 48 = .ok (.iload_n 2, 1) := by decide +kernel
theorem dX1_become_49 : decode cX1_become 49 = .ok (.aload_n 1, 1) := by decide +kernel
theorem dX1_become_50 : decode cX1_become 50 = .ok (.getfield 19, 3) := by decide +kernel
theorem dX1_become_53 : decode cX1_become 53 = .ok (.iload_n 2, 1) := by decide +kernel
theorem dX1_become_54 : decode cX1_become 54 = .ok (.iaload, 1) := by decide +kernel
theorem dX1_become_55 : decode cX1_become 55 = .ok (.iastore, 1) := by decide +kernel
theorem dX1_become_56 : decode cX1_become 56 = .ok (.iinc 2 1, 3) := by decide +kernel
theorem dX1_become_59 : decode cX1_become 59 = .ok (.goto (-33), 3) := by decide +kernel
theorem dX1_become_62 : decode cX1_become 62 = .ok (.iconst 0, 1) := by decide +kernel
theorem dX1_become_63 : decode cX1_become 63 = .ok (.istore_n 2, 1) := by decide +kernel
theorem dX1_become_64 : decode cX1_become 64 = .ok (.iload_n 2, 1) := by decide +kernel
theorem dX1_become_65 : decode cX1_become 65 = .ok (.aload_n 0, 1) := by decide +kernel
theorem dX1_become_66 : decode cX1_become 66 = .ok (.getfield 38, 3) := by decide +kernel
theorem dX1_become_69 : decode cX1_become 69 = .ok (.if_icmp .ge 24, 3) := by decide +kernel
theorem dX1_become_72 : decode cX1_become 72 = .ok (.aload_n 0, 1) := by decide +kernel
theorem dX1_become_73 : decode cX1_become 73 = .ok (.getfield 24, 3) := by decide +kernel
theorem dX1_become_76 : decode cX1_become 76 = .ok (.iload_n 2, 1) := by decide +kernel
theorem dX1_become_77 : decode cX1_become 77 = .ok (.aaload, 1) := by decide +kernel
theorem dX1_become_78 : decode cX1_become 78 = .ok (.aload_n 1, 1) := by decide +kernel
theorem dX1_become_79 : decode cX1_become 79 = .ok (.getfield 24, 3) := by decide +kernel
theorem dX1_become_82 : decode cX1_become 82 = .ok (.iload_n 2, 1) := by decide +kernel
theorem dX1_become_83 : decode cX1_become 83 = .ok (.aaload, 1) := by decide +kernel
theorem dX1_become_84 : decode cX1_become 84 = .ok (.invokevirtual 44, 3) := by decide +kernel
theorem dX1_become_87 : decode cX1_become 87 = .ok (.iinc 2 1, 3) := by decide +kernel
theorem dX1_become_90 : decode cX1_become 90 = .ok (.goto (-26), 3) := by decide +kernel
theorem dX1_become_93 : decode cX1_become 93 = .ok (.iconst 0, 1) := by decide +kernel
theorem dX1_become_94 : decode cX1_become 94 = .ok (.istore_n 2, 1) := by decide +kernel
theorem dX1_become_95 : decode cX1_become 95 = .ok (.iload_n 2, 1) := by decide +kernel
theorem dX1_become_96 : decode cX1_become 96 = .ok (.bipush 10, 2) := by decide +kernel
theorem dX1_become_98 : decode cX1_become 98 = .ok (.if_icmp .ge 45, 3) := by decide +kernel
theorem dX1_become_101 : decode cX1_become 101 = .ok (.aload_n 0, 1) := by decide +kernel
theorem dX1_become_102 : decode cX1_become 102 = .ok (.getfield 29, 3) := by decide +kernel
theorem dX1_become_105 : decode cX1_become 105 = .ok (.iload_n 2, 1) := by decide +kernel
theorem dX1_become_106 : decode cX1_become 106 = .ok (.aload_n 1, 1) := by decide +kernel
theorem dX1_become_107 : decode cX1_become 107 = .ok (.getfield 29, 3) := by decide +kernel
theorem dX1_become_110 : decode cX1_become 110 = .ok (.iload_n 2, 1) := by decide +kernel
theorem dX1_become_111 : decode cX1_become 111 = .ok (.iaload, 1) := by decide +kernel
theorem dX1_become_112 : decode cX1_become 112 = .ok (.iastore, 1) := by decide +kernel
theorem dX1_become_113 : decode cX1_become 113 = .ok (.aload_n 0, 1) := by decide +kernel
theorem dX1_become_114 : decode cX1_become 114 = .ok (.getfield 32, 3) := by decide +kernel
theorem dX1_become_117 : decode cX1_become 117 = .ok (.iload_n 2, 1) := by decide +kernel
theorem dX1_become_118 : decode cX1_become 118 = .ok (.aload_n 1, 1) := by decide +kernel
theorem dX1_become_119 : decode cX1_become 119 = .ok (.getfield 32, 3) := by decide +kernel
theorem dX1_become_122 : decode cX1_become 122 = .ok (.iload_n 2, 1) := by decide +kernel
theorem dX1_become_123 : decode cX1_become 123 = .ok (.iaload, 1) := by decide +kernel
theorem dX1_become_124 : decode cX1_become 124 = .ok (.iastore, 1) := by decide +kernel
theorem dX1_become_125 : decode cX1_become 125 = .ok (.aload_n 0, 1) := by decide +kernel
theorem dX1_become_126 : decode cX1_become 126 = .ok (.getfield 35, 3) := by decide +kernel
theorem dX1_become_129 : decode cX1_become 129 = .ok (.iload_n 2, 1) := by decide +kernel
theorem dX1_become_130 : decode cX1_become 130 = .ok (.aload_n 1, 1) := by decide +kernel
theorem dX1_become_131 : decode cX1_become 131 = .ok (.getfield 35, 3) := by decide +kernel
theorem dX1_become_134 : decode cX1_become 134 = .ok (.iload_n 2, 1) := by decide +kernel
theorem dX1_become_135 : decode cX1_become 135 = .ok (.iaload, 1) := by decide +kernel
theorem dX1_become_136 : decode cX1_become 136 = .ok (.iastore, 1) := by decide +kernel
theorem dX1_become_137 : decode cX1_become 137 = .ok (.iinc 2 1, 3) := by decide +kernel
theorem dX1_become_140 : decode cX1_become 140 = .ok (.goto (-45), 3) := by decide +kernel
theorem dX1_become_143 : decode cX1_become 143 = .ok (.return_, 1) := by decide +kernel
theorem dX1_addClerk_0 : decode cX1_addClerk 0 = .ok (.aload_n 0, 1) := by decide +kernel
theorem dX1_addClerk_1 : decode cX1_addClerk 1 = .ok (.getfield 38, 3) := by decide +kernel
theorem dX1_addClerk_4 : decode cX1_addClerk 4 = .ok (.istore_n 1, 1) := by decide +kernel
theorem dX1_addClerk_5 : decode cX1_addClerk 5 = .ok (.iload_n 1, 1) := by decide +kernel
theorem dX1_addClerk_6 : decode cX1_addClerk 6 = .ok (.bipush 6, 2) := by decide +kernel
theorem dX1_addClerk_8 : decode cX1_addClerk 8 = .ok (.if_icmp .ge 22, 3) := by decide +kernel
theorem dX1_addClerk_11 : decode cX1_addClerk 11 = .ok (.aload_n 0, 1) := by decide +kernel
theorem dX1_addClerk_12 : decode cX1_addClerk 12 = .ok (.getfield 24, 3) := by decide +kernel
theorem dX1_addClerk_15 : decode cX1_addClerk 15 = .ok (.iload_n 1, 1) := by decide +kernel
theorem dX1_addClerk_16 : decode cX1_addClerk 16 = .ok (.aaload, 1) := by decide +kernel
theorem dX1_addClerk_17 : decode cX1_addClerk 17 = .ok (.invokevirtual 48, 3) := by decide +kernel
theorem dX1_addClerk_20 : decode cX1_addClerk 20 = .ok (.aload_n 0, 1) := by decide +kernel
theorem dX1_addClerk_21 : decode cX1_addClerk 21 = .ok (.dup, 1) := by decide +kernel
theorem dX1_addClerk_22 : decode cX1_addClerk 22 = .ok (.getfield 38, 3) := by decide +kernel
theorem dX1_addClerk_25 : decode cX1_addClerk 25 = .ok (.iconst 1, 1) := by decide +kernel
theorem dX1_addClerk_26 : decode cX1_addClerk 26 = .ok (.iadd, 1) := by decide +kernel
theorem dX1_addClerk_27 : decode cX1_addClerk 27 = .ok (.putfield 38, 3) := by decide +kernel
theorem dX1_addClerk_30 : decode cX1_addClerk 30 = .ok (.iload_n 1, 1) := by decide +kernel
theorem dX1_addClerk_31 : decode cX1_addClerk 31 = .ok (.ireturn, 1) := by decide +kernel
theorem dX1_payByHand_0 : decode cX1_payByHand 0 = .ok (.aload_n 0, 1) := by decide +kernel
theorem dX1_payByHand_1 : decode cX1_payByHand 1 = .ok (.dup, 1) := by decide +kernel
theorem dX1_payByHand_2 : decode cX1_payByHand 2 = .ok (.getfield 41, 3) := by decide +kernel
theorem dX1_payByHand_5 : decode cX1_payByHand 5 = .ok (.iconst 1, 1) := by decide +kernel
theorem dX1_payByHand_6 : decode cX1_payByHand 6 = .ok (.iadd, 1) := by decide +kernel
theorem dX1_payByHand_7 : decode cX1_payByHand 7 = .ok (.putfield 41, 3) := by decide +kernel
theorem dX1_payByHand_10 : decode cX1_payByHand 10 = .ok (.aload_n 0, 1) := by decide +kernel
theorem dX1_payByHand_11 : decode cX1_payByHand 11 = .ok (.getfield 15, 3) := by decide +kernel
theorem dX1_payByHand_14 : decode cX1_payByHand 14 = .ok (.iload_n 1, 1) := by decide +kernel
theorem dX1_payByHand_15 : decode cX1_payByHand 15 = .ok (.iload_n 2, 1) := by decide +kernel
theorem dX1_payByHand_16 : decode cX1_payByHand 16 = .ok (.iastore, 1) := by decide +kernel
theorem dX1_payByHand_17 : decode cX1_payByHand 17 = .ok (.aload_n 0, 1) := by decide +kernel
theorem dX1_payByHand_18 : decode cX1_payByHand 18 = .ok (.getfield 19, 3) := by decide +kernel
theorem dX1_payByHand_21 : decode cX1_payByHand 21 = .ok (.iload_n 1, 1) := by decide +kernel
theorem dX1_payByHand_22 : decode cX1_payByHand 22 = .ok (.aload_n 0, 1) := by decide +kernel
theorem dX1_payByHand_23 : decode cX1_payByHand 23 = .ok (.getfield 41, 3) := by decide +kernel
theorem dX1_payByHand_26 : decode cX1_payByHand 26 = .ok (.iastore, 1) := by decide +kernel
theorem dX1_payByHand_27 : decode cX1_payByHand 27 = .ok (.aload_n 0, 1) := by decide +kernel
theorem dX1_payByHand_28 : decode cX1_payByHand 28 = .ok (.iconst (-1), 1) := by decide +kernel
theorem dX1_payByHand_29 : decode cX1_payByHand 29 = .ok (.iconst 1, 1) := by decide +kernel
theorem dX1_payByHand_30 : decode cX1_payByHand 30 = .ok (.invokevirtual 51, 3) := by decide +kernel
theorem dX1_payByHand_33 : decode cX1_payByHand 33 = .ok (.return_, 1) := by decide +kernel
theorem dX1_keepClosing_0 : decode cX1_keepClosing 0 = .ok (.bipush 9, 2) := by decide +kernel
theorem dX1_keepClosing_2 : decode cX1_keepClosing 2 = .ok (.istore_n 3, 1) := by decide +kernel
theorem dX1_keepClosing_3 : decode cX1_keepClosing 3 = .ok (.iload_n 3, 1) := by decide +kernel
theorem dX1_keepClosing_4 : decode cX1_keepClosing 4 = .ok (.ifCond .le 51, 3) := by decide +kernel
theorem dX1_keepClosing_7 : decode cX1_keepClosing 7 = .ok (.aload_n 0, 1) := by decide +kernel
theorem dX1_keepClosing_8 : decode cX1_keepClosing 8 = .ok (.getfield 29, 3) := by decide +kernel
theorem dX1_keepClosing_11 : decode cX1_keepClosing 11 = .ok (.iload_n 3, 1) := by decide +kernel
theorem dX1_keepClosing_12 : decode cX1_keepClosing 12 = .ok (.aload_n 0, 1) := by decide +kernel
theorem dX1_keepClosing_13 : decode cX1_keepClosing 13 = .ok (.getfield 29, 3) := by decide +kernel
theorem dX1_keepClosing_16 : decode cX1_keepClosing 16 = .ok (.iload_n 3, 1) := by decide +kernel
theorem dX1_keepClosing_17 : decode cX1_keepClosing 17 = .ok (.iconst 1, 1) := by decide +kernel
theorem dX1_keepClosing_18 : decode cX1_keepClosing 18 = .ok (.isub, 1) := by decide +kernel
theorem dX1_keepClosing_19 : decode cX1_keepClosing 19 = .ok (.iaload, 1) := by decide +kernel
theorem dX1_keepClosing_20 : decode cX1_keepClosing 20 = .ok (.iastore, 1) := by decide +kernel
theorem dX1_keepClosing_21 : decode cX1_keepClosing 21 = .ok (.aload_n 0, 1) := by decide +kernel
theorem dX1_keepClosing_22 : decode cX1_keepClosing 22 = .ok (.getfield 32, 3) := by decide +kernel
theorem dX1_keepClosing_25 : decode cX1_keepClosing 25 = .ok (.iload_n 3, 1) := by decide +kernel
theorem dX1_keepClosing_26 : decode cX1_keepClosing 26 = .ok (.aload_n 0, 1) := by decide +kernel
theorem dX1_keepClosing_27 : decode cX1_keepClosing 27 = .ok (.getfield 32, 3) := by decide +kernel
theorem dX1_keepClosing_30 : decode cX1_keepClosing 30 = .ok (.iload_n 3, 1) := by decide +kernel
theorem dX1_keepClosing_31 : decode cX1_keepClosing 31 = .ok (.iconst 1, 1) := by decide +kernel
theorem dX1_keepClosing_32 : decode cX1_keepClosing 32 = .ok (.isub, 1) := by decide +kernel
theorem dX1_keepClosing_33 : decode cX1_keepClosing 33 = .ok (.iaload, 1) := by decide +kernel
theorem dX1_keepClosing_34 : decode cX1_keepClosing 34 = .ok (.iastore, 1) := by decide +kernel
theorem dX1_keepClosing_35 : decode cX1_keepClosing 35 = .ok (.aload_n 0, 1) := by decide +kernel
theorem dX1_keepClosing_36 : decode cX1_keepClosing 36 = .ok (.getfield 35, 3) := by decide +kernel
theorem dX1_keepClosing_39 : decode cX1_keepClosing 39 = .ok (.iload_n 3, 1) := by decide +kernel
theorem dX1_keepClosing_40 : decode cX1_keepClosing 40 = .ok (.aload_n 0, 1) := by decide +kernel
theorem dX1_keepClosing_41 : decode cX1_keepClosing 41 = .ok (.getfield 35, 3) := by decide +kernel
theorem dX1_keepClosing_44 : decode cX1_keepClosing 44 = .ok (.iload_n 3, 1) := by decide +kernel
theorem dX1_keepClosing_45 : decode cX1_keepClosing 45 = .ok (.iconst 1, 1) := by decide +kernel
theorem dX1_keepClosing_46 : decode cX1_keepClosing 46 = .ok (.isub, 1) := by decide +kernel
theorem dX1_keepClosing_47 : decode cX1_keepClosing 47 = .ok (.iaload, 1) := by decide +kernel
theorem dX1_keepClosing_48 : decode cX1_keepClosing 48 = .ok (.iastore, 1) := by decide +kernel
theorem dX1_keepClosing_49 : decode cX1_keepClosing 49 = .ok (.iinc 3 (-1), 3) := by decide +kernel
theorem dX1_keepClosing_52 : decode cX1_keepClosing 52 = .ok (.goto (-49), 3) := by decide +kernel
theorem dX1_keepClosing_55 : decode cX1_keepClosing 55 = .ok (.aload_n 0, 1) := by decide +kernel
theorem dX1_keepClosing_56 : decode cX1_keepClosing 56 = .ok (.getfield 29, 3) := by decide +kernel
theorem dX1_keepClosing_59 : decode cX1_keepClosing 59 = .ok (.iconst 0, 1) := by decide +kernel
theorem dX1_keepClosing_60 : decode cX1_keepClosing 60 = .ok (.iload_n 1, 1) := by decide +kernel
theorem dX1_keepClosing_61 : decode cX1_keepClosing 61 = .ok (.iastore, 1) := by decide +kernel
theorem dX1_keepClosing_62 : decode cX1_keepClosing 62 = .ok (.aload_n 0, 1) := by decide +kernel
theorem dX1_keepClosing_63 : decode cX1_keepClosing 63 = .ok (.getfield 32, 3) := by decide +kernel
theorem dX1_keepClosing_66 : decode cX1_keepClosing 66 = .ok (.iconst 0, 1) := by decide +kernel
theorem dX1_keepClosing_67 : decode cX1_keepClosing 67 = .ok (.iload_n 2, 1) := by decide +kernel
theorem dX1_keepClosing_68 : decode cX1_keepClosing 68 = .ok (.iastore, 1) := by decide +kernel
theorem dX1_keepClosing_69 : decode cX1_keepClosing 69 = .ok (.aload_n 0, 1) := by decide +kernel
theorem dX1_keepClosing_70 : decode cX1_keepClosing 70 = .ok (.getfield 35, 3) := by decide +kernel
theorem dX1_keepClosing_73 : decode cX1_keepClosing 73 = .ok (.iconst 0, 1) := by decide +kernel
theorem dX1_keepClosing_74 : decode cX1_keepClosing 74 = .ok (.aload_n 0, 1) := by decide +kernel
theorem dX1_keepClosing_75 : decode cX1_keepClosing 75 = .ok (.invokevirtual 55, 3) := by decide +kernel
theorem dX1_keepClosing_78 : decode cX1_keepClosing 78 = .ok (.iastore, 1) := by decide +kernel
theorem dX1_keepClosing_79 : decode cX1_keepClosing 79 = .ok (.return_, 1) := by decide +kernel
theorem dX1_takeTurn_0 : decode cX1_takeTurn 0 = .ok (.aload_n 0, 1) := by decide +kernel
theorem dX1_takeTurn_1 : decode cX1_takeTurn 1 = .ok (.getfield 24, 3) := by decide +kernel
theorem dX1_takeTurn_4 : decode cX1_takeTurn 4 = .ok (.iload_n 1, 1) := by decide +kernel
theorem dX1_takeTurn_5 : decode cX1_takeTurn 5 = .ok (.aaload, 1) := by decide +kernel
theorem dX1_takeTurn_6 : decode cX1_takeTurn 6 = .ok (.astore_n 2, 1) := by decide +kernel
theorem dX1_takeTurn_7 : decode cX1_takeTurn 7 = .ok (.aload_n 2, 1) := by decide +kernel
theorem dX1_takeTurn_8 : decode cX1_takeTurn 8 = .ok (.getfield 59, 3) := by decide +kernel
theorem dX1_takeTurn_11 : decode cX1_takeTurn 11 = .ok (.aload_n 2, 1) := by decide +kernel
theorem dX1_takeTurn_12 : decode cX1_takeTurn 12 = .ok (.getfield 62, 3) := by decide +kernel
theorem dX1_takeTurn_15 : decode cX1_takeTurn 15 = .ok (.if_icmp .ge 20, 3) := by decide +kernel
theorem dX1_takeTurn_18 : decode cX1_takeTurn 18 = .ok (.aload_n 0, 1) := by decide +kernel
theorem dX1_takeTurn_19 : decode cX1_takeTurn 19 = .ok (.aload_n 2, 1) := by decide +kernel
theorem dX1_takeTurn_20 : decode cX1_takeTurn 20 = .ok (.invokevirtual 65, 3) := by decide +kernel
theorem dX1_takeTurn_23 : decode cX1_takeTurn 23 = .ok (.aload_n 2, 1) := by decide +kernel
theorem dX1_takeTurn_24 : decode cX1_takeTurn 24 = .ok (.dup, 1) := by decide +kernel
theorem dX1_takeTurn_25 : decode cX1_takeTurn 25 = .ok (.getfield 59, 3) := by decide +kernel
theorem dX1_takeTurn_28 : decode cX1_takeTurn 28 = .ok (.iconst 1, 1) := by decide +kernel
theorem dX1_takeTurn_29 : decode cX1_takeTurn 29 = .ok (.iadd, 1) := by decide +kernel
theorem dX1_takeTurn_30 : decode cX1_takeTurn 30 = .ok (.putfield 59, 3) := by decide +kernel
theorem dX1_takeTurn_33 : decode cX1_takeTurn 33 = .ok (.iconst 0, 1) := by decide +kernel
theorem dX1_takeTurn_34 : decode cX1_takeTurn 34 = .ok (.ireturn, 1) := by decide +kernel
theorem dX1_takeTurn_35 : decode cX1_takeTurn 35 = .ok (.aload_n 0, 1) := by decide +kernel
theorem dX1_takeTurn_36 : decode cX1_takeTurn 36 = .ok (.aload_n 2, 1) := by decide +kernel
theorem dX1_takeTurn_37 : decode cX1_takeTurn 37 = .ok (.invokevirtual 68, 3) := by decide +kernel
theorem dX1_takeTurn_40 : decode cX1_takeTurn 40 = .ok (.ifCond .eq 19, 3) := by decide +kernel
theorem dX1_takeTurn_43 : decode cX1_takeTurn 43 = .ok (.aload_n 2, 1) := by decide +kernel
theorem dX1_takeTurn_44 : decode cX1_takeTurn 44 = .ok (.dup, 1) := by decide +kernel
theorem dX1_takeTurn_45 : decode cX1_takeTurn 45 = .ok (.getfield 72, 3) := by decide +kernel
theorem dX1_takeTurn_48 : decode cX1_takeTurn 48 = .ok (.iconst 1, 1) := by decide +kernel
theorem dX1_takeTurn_49 : decode cX1_takeTurn 49 = .ok (.iadd, 1) := by decide +kernel
theorem dX1_takeTurn_50 : decode cX1_takeTurn 50 = .ok (.putfield 72, 3) := by decide +kernel
theorem dX1_takeTurn_53 : decode cX1_takeTurn 53 = .ok (.aload_n 2, 1) := by decide +kernel
theorem dX1_takeTurn_54 : decode cX1_takeTurn 54 = .ok (.invokevirtual 75, 3) := by decide +kernel
theorem dX1_takeTurn_57 : decode cX1_takeTurn 57 = .ok (.iconst 2, 1) := by decide +kernel
theorem dX1_takeTurn_58 : decode cX1_takeTurn 58 = .ok (.ireturn, 1) := by decide +kernel
theorem dX1_takeTurn_59 : decode cX1_takeTurn 59 = .ok (.aload_n 0, 1) := by decide +kernel
theorem dX1_takeTurn_60 : decode cX1_takeTurn 60 = .ok (.iload_n 1, 1) := by decide +kernel
theorem dX1_takeTurn_61 : decode cX1_takeTurn 61 = .ok (.invokevirtual 78, 3) := by decide +kernel
theorem dX1_takeTurn_64 : decode cX1_takeTurn 64 = .ok (.iconst 1, 1) := by decide +kernel
theorem dX1_takeTurn_65 : decode cX1_takeTurn 65 = .ok (.ireturn, 1) := by decide +kernel
theorem dX1_doStep_0 : decode cX1_doStep 0 = .ok (.aload_n 1, 1) := by decide +kernel
theorem dX1_doStep_1 : decode cX1_doStep 1 = .ok (.getfield 82, 3) := by decide +kernel
theorem dX1_doStep_4 : decode cX1_doStep 4 = .ok (.aload_n 1, 1) := by decide +kernel
theorem dX1_doStep_5 : decode cX1_doStep 5 = .ok (.getfield 59, 3) := by decide +kernel
theorem dX1_doStep_8 : decode cX1_doStep 8 = .ok (.iaload, 1) := by decide +kernel
theorem dX1_doStep_9 : decode cX1_doStep 9 = .ok (.istore_n 2, 1) := by decide +kernel
theorem dX1_doStep_10 : decode cX1_doStep 10 = .ok (.aload_n 1, 1) := by decide +kernel
theorem dX1_doStep_11 : decode cX1_doStep 11 = .ok (.getfield 85, 3) := by decide +kernel
theorem dX1_doStep_14 : decode cX1_doStep 14 = .ok (.aload_n 1, 1) := by decide +kernel
theorem dX1_doStep_15 : decode cX1_doStep 15 = .ok (.getfield 59, 3) := by decide +kernel
theorem dX1_doStep_18 : decode cX1_doStep 18 = .ok (.iaload, 1) := by decide +kernel
theorem dX1_doStep_19 : decode cX1_doStep 19 = .ok (.istore_n 3, 1) := by decide +kernel
theorem dX1_doStep_20 : decode cX1_doStep 20 = .ok (.aload_n 1, 1) := by decide +kernel
theorem dX1_doStep_21 : decode cX1_doStep 21 = .ok (.getfield 88, 3) := by decide +kernel
theorem dX1_doStep_24 : decode cX1_doStep 24 = .ok (.aload_n 1, 1) := by decide +kernel
theorem dX1_doStep_25 : decode cX1_doStep 25 = .ok (.getfield 59, 3) := by decide +kernel
theorem dX1_doStep_28 : decode cX1_doStep 28 = .ok (.iaload, 1) := by decide +kernel
theorem dX1_doStep_29 : decode cX1_doStep 29 = .ok (.tableswitch 67 0 2 #[27, 37, 47], 27) := by decide +kernel
theorem dX1_doStep_56 : decode cX1_doStep 56 = .ok (.aload_n 0, 1) := by decide +kernel
theorem dX1_doStep_57 : decode cX1_doStep 57 = .ok (.aload_n 1, 1) := by decide +kernel
theorem dX1_doStep_58 : decode cX1_doStep 58 = .ok (.iload_n 2, 1) := by decide +kernel
theorem dX1_doStep_59 : decode cX1_doStep 59 = .ok (.invokevirtual 91, 3) := by decide +kernel
theorem dX1_doStep_62 : decode cX1_doStep 62 = .ok (.pop, 1) := by decide +kernel
theorem dX1_doStep_63 : decode cX1_doStep 63 = .ok (.goto 49, 3) := by decide +kernel
theorem dX1_doStep_66 : decode cX1_doStep 66 = .ok (.aload_n 1, 1) := by decide +kernel
theorem dX1_doStep_67 : decode cX1_doStep 67 = .ok (.getfield 95, 3) := by decide +kernel
theorem dX1_doStep_70 : decode cX1_doStep 70 = .ok (.iload_n 2, 1) := by decide +kernel
theorem dX1_doStep_71 : decode cX1_doStep 71 = .ok (.iload_n 3, 1) := by decide +kernel
theorem dX1_doStep_72 : decode cX1_doStep 72 = .ok (.iastore, 1) := by decide +kernel
theorem dX1_doStep_73 : decode cX1_doStep 73 = .ok (.goto 39, 3) := by decide +kernel
theorem dX1_doStep_76 : decode cX1_doStep 76 = .ok (.aload_n 1, 1) := by decide +kernel
theorem dX1_doStep_77 : decode cX1_doStep 77 = .ok (.getfield 95, 3) := by decide +kernel
theorem dX1_doStep_80 : decode cX1_doStep 80 = .ok (.iload_n 2, 1) := by decide +kernel
theorem dX1_doStep_81 : decode cX1_doStep 81 = .ok (.aload_n 0, 1) := by decide +kernel
theorem dX1_doStep_82 : decode cX1_doStep 82 = .ok (.aload_n 1, 1) := by decide +kernel
theorem dX1_doStep_83 : decode cX1_doStep 83 = .ok (.iload_n 2, 1) := by decide +kernel
theorem dX1_doStep_84 : decode cX1_doStep 84 = .ok (.invokevirtual 91, 3) := by decide +kernel
theorem dX1_doStep_87 : decode cX1_doStep 87 = .ok (.iload_n 3, 1) := by decide +kernel
theorem dX1_doStep_88 : decode cX1_doStep 88 = .ok (.iadd, 1) := by decide +kernel
theorem dX1_doStep_89 : decode cX1_doStep 89 = .ok (.invokestatic 98, 3) := by decide +kernel
theorem dX1_doStep_92 : decode cX1_doStep 92 = .ok (.iastore, 1) := by decide +kernel
theorem dX1_doStep_93 : decode cX1_doStep 93 = .ok (.goto 19, 3) := by decide +kernel
theorem dX1_doStep_96 : decode cX1_doStep 96 = .ok (.aload_n 0, 1) := by decide +kernel
theorem dX1_doStep_97 : decode cX1_doStep 97 = .ok (.aload_n 1, 1) := by decide +kernel
theorem dX1_doStep_98 : decode cX1_doStep 98 = .ok (.iload_n 2, 1) := by decide +kernel
theorem dX1_doStep_99 : decode cX1_doStep 99 = .ok (.aload_n 1, 1) := by decide +kernel
theorem dX1_doStep_100 : decode cX1_doStep 100 = .ok (.getfield 102, 3) := by decide +kernel
theorem dX1_doStep_103 : decode cX1_doStep 103 = .ok (.aload_n 1, 1) := by decide +kernel
theorem dX1_doStep_104 : decode cX1_doStep 104 = .ok (.getfield 59, 3) := by decide +kernel
theorem dX1_doStep_107 : decode cX1_doStep 107 = .ok (.iaload, 1) := by decide +kernel
theorem dX1_doStep_108 : decode cX1_doStep 108 = .ok (.iload_n 3, 1) := by decide +kernel
theorem dX1_doStep_109 : decode cX1_doStep 109 = .ok (.invokevirtual 105, 3) := by decide +kernel
theorem dX1_doStep_112 : decode cX1_doStep 112 = .ok (.return_, 1) := by decide +kernel
theorem dX1_carry_0 : decode cX1_carry 0 = .ok (.aload_n 0, 1) := by decide +kernel
theorem dX1_carry_1 : decode cX1_carry 1 = .ok (.aload_n 1, 1) := by decide +kernel
theorem dX1_carry_2 : decode cX1_carry 2 = .ok (.iload_n 2, 1) := by decide +kernel
theorem dX1_carry_3 : decode cX1_carry 3 = .ok (.invokevirtual 91, 3) := by decide +kernel
theorem dX1_carry_6 : decode cX1_carry 6 = .ok (.istore 5, 2) := by decide +kernel
theorem dX1_carry_8 : decode cX1_carry 8 = .ok (.iload 5, 2) := by decide +kernel
theorem dX1_carry_10 : decode cX1_carry 10 = .ok (.iload 4, 2) := by decide +kernel
theorem dX1_carry_12 : decode cX1_carry 12 = .ok (.if_icmp .ge 4, 3) := by decide +kernel
theorem dX1_carry_15 : decode cX1_carry 15 = .ok (.return_, 1) := by decide +kernel
theorem dX1_carry_16 : decode cX1_carry 16 = .ok (.aload_n 0, 1) := by decide +kernel
theorem dX1_carry_17 : decode cX1_carry 17 = .ok (.aload_n 1, 1) := by decide +kernel
theorem dX1_carry_18 : decode cX1_carry 18 = .ok (.iload_n 3, 1) := by decide +kernel
theorem dX1_carry_19 : decode cX1_carry 19 = .ok (.invokevirtual 91, 3) := by decide +kernel
theorem dX1_carry_22 : decode cX1_carry 22 = .ok (.istore 6, 2) := by decide +kernel
theorem dX1_carry_24 : decode cX1_carry 24 = .ok (.aload_n 1, 1) := by decide +kernel
theorem dX1_carry_25 : decode cX1_carry 25 = .ok (.getfield 95, 3) := by decide +kernel
theorem dX1_carry_28 : decode cX1_carry 28 = .ok (.iload_n 2, 1) := by decide +kernel
theorem dX1_carry_29 : decode cX1_carry 29 = .ok (.iload 5, 2) := by decide +kernel
theorem dX1_carry_31 : decode cX1_carry 31 = .ok (.iload 4, 2) := by decide +kernel
theorem dX1_carry_33 : decode cX1_carry 33 = .ok (.isub, 1) := by decide +kernel
theorem dX1_carry_34 : decode cX1_carry 34 = .ok (.iastore, 1) := by decide +kernel
theorem dX1_carry_35 : decode cX1_carry 35 = .ok (.aload_n 1, 1) := by decide +kernel
theorem dX1_carry_36 : decode cX1_carry 36 = .ok (.getfield 95, 3) := by decide +kernel
theorem dX1_carry_39 : decode cX1_carry 39 = .ok (.iload_n 3, 1) := by decide +kernel
theorem dX1_carry_40 : decode cX1_carry 40 = .ok (.iload 6, 2) := by decide +kernel
theorem dX1_carry_42 : decode cX1_carry 42 = .ok (.iload 4, 2) := by decide +kernel
theorem dX1_carry_44 : decode cX1_carry 44 = .ok (.iadd, 1) := by decide +kernel
theorem dX1_carry_45 : decode cX1_carry 45 = .ok (.invokestatic 98, 3) := by decide +kernel
theorem dX1_carry_48 : decode cX1_carry 48 = .ok (.iastore, 1) := by decide +kernel
theorem dX1_carry_49 : decode cX1_carry 49 = .ok (.return_, 1) := by decide +kernel
theorem dX1_read_0 : decode cX1_read 0 = .ok (.aload_n 1, 1) := by decide +kernel
theorem dX1_read_1 : decode cX1_read 1 = .ok (.iload_n 2, 1) := by decide +kernel
theorem dX1_read_2 : decode cX1_read 2 = .ok (.invokevirtual 109, 3) := by decide +kernel
theorem dX1_read_5 : decode cX1_read 5 = .ok (.ifCond .eq 10, 3) := by decide +kernel
theorem dX1_read_8 : decode cX1_read 8 = .ok (.aload_n 1, 1) := by decide +kernel
theorem dX1_read_9 : decode cX1_read 9 = .ok (.getfield 95, 3) := by decide +kernel
theorem dX1_read_12 : decode cX1_read 12 = .ok (.iload_n 2, 1) := by decide +kernel
theorem dX1_read_13 : decode cX1_read 13 = .ok (.iaload, 1) := by decide +kernel
theorem dX1_read_14 : decode cX1_read 14 = .ok (.ireturn, 1) := by decide +kernel
theorem dX1_read_15 : decode cX1_read 15 = .ok (.aload_n 1, 1) := by decide +kernel
theorem dX1_read_16 : decode cX1_read 16 = .ok (.iload_n 2, 1) := by decide +kernel
theorem dX1_read_17 : decode cX1_read 17 = .ok (.invokevirtual 113, 3) := by decide +kernel
theorem dX1_read_20 : decode cX1_read 20 = .ok (.ifCond .ne 27, 3) := by decide +kernel
theorem dX1_read_23 : decode cX1_read 23 = .ok (.aload_n 1, 1) := by decide +kernel
theorem dX1_read_24 : decode cX1_read 24 = .ok (.getfield 116, 3) := by decide +kernel
theorem dX1_read_27 : decode cX1_read 27 = .ok (.iload_n 2, 1) := by decide +kernel
theorem dX1_read_28 : decode cX1_read 28 = .ok (.aload_n 0, 1) := by decide +kernel
theorem dX1_read_29 : decode cX1_read 29 = .ok (.getfield 15, 3) := by decide +kernel
theorem dX1_read_32 : decode cX1_read 32 = .ok (.iload_n 2, 1) := by decide +kernel
theorem dX1_read_33 : decode cX1_read 33 = .ok (.iaload, 1) := by decide +kernel
theorem dX1_read_34 : decode cX1_read 34 = .ok (.iastore, 1) := by decide +kernel
theorem dX1_read_35 : decode cX1_read 35 = .ok (.aload_n 1, 1) := by decide +kernel
theorem dX1_read_36 : decode cX1_read 36 = .ok (.getfield 119, 3) := by decide +kernel
theorem dX1_read_39 : decode cX1_read 39 = .ok (.iload_n 2, 1) := by decide +kernel
theorem dX1_read_40 : decode cX1_read 40 = .ok (.aload_n 0, 1) := by decide +kernel
theorem dX1_read_41 : decode cX1_read 41 = .ok (.getfield 19, 3) := by decide +kernel
theorem dX1_read_44 : decode cX1_read 44 = .ok (.iload_n 2, 1) := by decide +kernel
theorem dX1_read_45 : decode cX1_read 45 = .ok (.iaload, 1) := by decide +kernel
theorem dX1_read_46 : decode cX1_read 46 = .ok (.iastore, 1) := by decide +kernel
theorem dX1_read_47 : decode cX1_read 47 = .ok (.aload_n 1, 1) := by decide +kernel
theorem dX1_read_48 : decode cX1_read 48 = .ok (.getfield 116, 3) := by decide +kernel
theorem dX1_read_51 : decode cX1_read 51 = .ok (.iload_n 2, 1) := by decide +kernel
theorem dX1_read_52 : decode cX1_read 52 = .ok (.iaload, 1) := by decide +kernel
theorem dX1_read_53 : decode cX1_read 53 = .ok (.ireturn, 1) := by decide +kernel
theorem dX1_held_0 : decode cX1_held 0 = .ok (.iload_n 0, 1) := by decide +kernel
theorem dX1_held_1 : decode cX1_held 1 = .ok (.ifCond .ge 7, 3) := by decide +kernel
theorem dX1_held_4 : decode cX1_held 4 = .ok (.iconst 0, 1) := by decide +kernel
theorem dX1_held_5 : decode cX1_held 5 = .ok (.goto 10, 3) := by decide +kernel
theorem dX1_held_8 : decode cX1_held 8 = .ok (.iload_n 0, 1) := by decide +kernel
theorem dX1_held_9 : decode cX1_held 9 = .ok (.sipush 9999, 3) := by decide +kernel
theorem dX1_held_12 : decode cX1_held 12 = .ok (.invokestatic 122, 3) := by decide +kernel
theorem dX1_held_15 : decode cX1_held 15 = .ok (.ireturn, 1) := by decide +kernel
theorem dX1_isOutdated_0 : decode cX1_isOutdated 0 = .ok (.iconst 0, 1) := by decide +kernel
theorem dX1_isOutdated_1 : decode cX1_isOutdated 1 = .ok (.istore_n 2, 1) := by decide +kernel
theorem dX1_isOutdated_2 : decode cX1_isOutdated 2 = .ok (.iload_n 2, 1) := by decide +kernel
theorem dX1_isOutdated_3 : decode cX1_isOutdated 3 = .ok (.aload_n 0, 1) := by decide +kernel
theorem dX1_isOutdated_4 : decode cX1_isOutdated 4 = .ok (.getfield 9, 3) := by decide +kernel
theorem dX1_isOutdated_7 : decode cX1_isOutdated 7 = .ok (.if_icmp .ge 34, 3) := by decide +kernel
theorem dX1_isOutdated_10 : decode cX1_isOutdated 10 = .ok (.aload_n 1, 1) := by decide +kernel
theorem dX1_isOutdated_11 : decode cX1_isOutdated 11 = .ok (.iload_n 2, 1) := by decide +kernel
theorem dX1_isOutdated_12 : decode cX1_isOutdated 12 = .ok (.invokevirtual 113, 3) := by decide +kernel
theorem dX1_isOutdated_15 : decode cX1_isOutdated 15 = .ok (.ifCond .eq 20, 3) := by decide +kernel
theorem dX1_isOutdated_18 : decode cX1_isOutdated 18 = .ok (.aload_n 1, 1) := by decide +kernel
theorem dX1_isOutdated_19 : decode cX1_isOutdated 19 = .ok (.getfield 119, 3) := by decide +kernel
theorem dX1_isOutdated_22 : decode cX1_isOutdated 22 = .ok (.iload_n 2, 1) := by decide +kernel
theorem dX1_isOutdated_23 : decode cX1_isOutdated 23 = .ok (.iaload, 1) := by decide +kernel
theorem dX1_isOutdated_24 : decode cX1_isOutdated 24 = .ok (.aload_n 0, 1) := by decide +kernel
theorem dX1_isOutdated_25 : decode cX1_isOutdated 25 = .ok (.getfield 19, 3) := by decide +kernel
theorem dX1_isOutdated_28 : decode cX1_isOutdated 28 = .ok (.iload_n 2, 1) := by decide +kernel
theorem dX1_isOutdated_29 : decode cX1_isOutdated 29 = .ok (.iaload, 1) := by decide +kernel
theorem dX1_isOutdated_30 : decode cX1_isOutdated 30 = .ok (.if_icmp .eq 5, 3) := by decide +kernel
theorem dX1_isOutdated_33 : decode cX1_isOutdated 33 = .ok (.iconst 1, 1) := by decide +kernel
theorem dX1_isOutdated_34 : decode cX1_isOutdated 34 = .ok (.ireturn, 1) := by decide +kernel
theorem dX1_isOutdated_35 : decode cX1_isOutdated 35 = .ok (.iinc 2 1, 3) := by decide +kernel
theorem dX1_isOutdated_38 : decode cX1_isOutdated 38 = .ok (.goto (-36), 3) := by decide +kernel
theorem dX1_isOutdated_41 : decode cX1_isOutdated 41 = .ok (.iconst 0, 1) := by decide +kernel
theorem dX1_isOutdated_42 : decode cX1_isOutdated 42 = .ok (.ireturn, 1) := by decide +kernel
theorem dX1_close_0 : decode cX1_close 0 = .ok (.aload_n 0, 1) := by decide +kernel
theorem dX1_close_1 : decode cX1_close 1 = .ok (.getfield 24, 3) := by decide +kernel
theorem dX1_close_4 : decode cX1_close 4 = .ok (.iload_n 1, 1) := by decide +kernel
theorem dX1_close_5 : decode cX1_close 5 = .ok (.aaload, 1) := by decide +kernel
theorem dX1_close_6 : decode cX1_close 6 = .ok (.astore_n 2, 1) := by decide +kernel
theorem dX1_close_7 : decode cX1_close 7 = .ok (.aload_n 0, 1) := by decide +kernel
theorem dX1_close_8 : decode cX1_close 8 = .ok (.dup, 1) := by decide +kernel
theorem dX1_close_9 : decode cX1_close 9 = .ok (.getfield 41, 3) := by decide +kernel
theorem dX1_close_12 : decode cX1_close 12 = .ok (.iconst 1, 1) := by decide +kernel
theorem dX1_close_13 : decode cX1_close 13 = .ok (.iadd, 1) := by decide +kernel
theorem dX1_close_14 : decode cX1_close 14 = .ok (.putfield 41, 3) := by decide +kernel
theorem dX1_close_17 : decode cX1_close 17 = .ok (.iconst 0, 1) := by decide +kernel
theorem dX1_close_18 : decode cX1_close 18 = .ok (.istore_n 3, 1) := by decide +kernel
theorem dX1_close_19 : decode cX1_close 19 = .ok (.iload_n 3, 1) := by decide +kernel
theorem dX1_close_20 : decode cX1_close 20 = .ok (.aload_n 0, 1) := by decide +kernel
theorem dX1_close_21 : decode cX1_close 21 = .ok (.getfield 9, 3) := by decide +kernel
theorem dX1_close_24 : decode cX1_close 24 = .ok (.if_icmp .ge 39, 3) := by decide +kernel
theorem dX1_close_27 : decode cX1_close 27 = .ok (.aload_n 2, 1) := by decide +kernel
theorem dX1_close_28 : decode cX1_close 28 = .ok (.iload_n 3, 1) := by decide +kernel
theorem dX1_close_29 : decode cX1_close 29 = .ok (.invokevirtual 109, 3) := by decide +kernel
theorem dX1_close_32 : decode cX1_close 32 = .ok (.ifCond .eq 25, 3) := by decide +kernel
theorem dX1_close_35 : decode cX1_close 35 = .ok (.aload_n 0, 1) := by decide +kernel
theorem dX1_close_36 : decode cX1_close 36 = .ok (.getfield 15, 3) := by decide +kernel
theorem dX1_close_39 : decode cX1_close 39 = .ok (.iload_n 3, 1) := by decide +kernel
theorem dX1_close_40 : decode cX1_close 40 = .ok (.aload_n 2, 1) := by decide +kernel
theorem dX1_close_41 : decode cX1_close 41 = .ok (.getfield 95, 3) := by decide +kernel
theorem dX1_close_44 : decode cX1_close 44 = .ok (.iload_n 3, 1) := by decide +kernel
theorem dX1_close_45 : decode cX1_close 45 = .ok (.iaload, 1) := by decide +kernel
theorem dX1_close_46 : decode cX1_close 46 = .ok (.iastore, 1) := by decide +kernel
theorem dX1_close_47 : decode cX1_close 47 = .ok (.aload_n 0, 1) := by decide +kernel
theorem dX1_close_48 : decode cX1_close 48 = .ok (.getfield 19, 3) := by decide +kernel
theorem dX1_close_51 : decode cX1_close 51 = .ok (.iload_n 3, 1) := by decide +kernel
theorem dX1_close_52 : decode cX1_close 52 = .ok (.aload_n 0, 1) := by decide +kernel
theorem dX1_close_53 : decode cX1_close 53 = .ok (.getfield 41, 3) := by decide +kernel
theorem dX1_close_56 : decode cX1_close 56 = .ok (.iastore, 1) := by decide +kernel
theorem dX1_close_57 : decode cX1_close 57 = .ok (.iinc 3 1, 3) := by decide +kernel
theorem dX1_close_60 : decode cX1_close 60 = .ok (.goto (-41), 3) := by decide +kernel
theorem dX1_close_63 : decode cX1_close 63 = .ok (.aload_n 2, 1) := by decide +kernel
theorem dX1_close_64 : decode cX1_close 64 = .ok (.iconst 1, 1) := by decide +kernel
theorem dX1_close_65 : decode cX1_close 65 = .ok (.putfield 128, 3) := by decide +kernel
theorem dX1_close_68 : decode cX1_close 68 = .ok (.aload_n 0, 1) := by decide +kernel
theorem dX1_close_69 : decode cX1_close 69 = .ok (.iload_n 1, 1) := by decide +kernel
theorem dX1_close_70 : decode cX1_close 70 = .ok (.aload_n 2, 1) := by decide +kernel
theorem dX1_close_71 : decode cX1_close 71 = .ok (.invokevirtual 132, 3) := by decide +kernel
theorem dX1_close_74 : decode cX1_close 74 = .ok (.invokevirtual 51, 3) := by decide +kernel
theorem dX1_close_77 : decode cX1_close 77 = .ok (.return_, 1) := by decide +kernel
theorem dX1_goRounds_0 : decode cX1_goRounds 0 = .ok (.iconst 0, 1) := by decide +kernel
theorem dX1_goRounds_1 : decode cX1_goRounds 1 = .ok (.istore_n 2, 1) := by decide +kernel
theorem dX1_goRounds_2 : decode cX1_goRounds 2 = .ok (.iconst 0, 1) := by decide +kernel
theorem dX1_goRounds_3 : decode cX1_goRounds 3 = .ok (.istore_n 3, 1) := by decide +kernel
theorem dX1_goRounds_4 : decode cX1_goRounds 4 = .ok (.iload_n 3, 1) := by decide +kernel
theorem dX1_goRounds_5 : decode cX1_goRounds 5 = .ok (.iload_n 1, 1) := by decide +kernel
theorem dX1_goRounds_6 : decode cX1_goRounds 6 = .ok (.if_icmp .ge 16, 3) := by decide +kernel
theorem dX1_goRounds_9 : decode cX1_goRounds 9 = .ok (.iload_n 2, 1) := by decide +kernel
theorem dX1_goRounds_10 : decode cX1_goRounds 10 = .ok (.aload_n 0, 1) := by decide +kernel
theorem dX1_goRounds_11 : decode cX1_goRounds 11 = .ok (.invokevirtual 135, 3) := by decide +kernel
theorem dX1_goRounds_14 : decode cX1_goRounds 14 = .ok (.iadd, 1) := by decide +kernel
theorem dX1_goRounds_15 : decode cX1_goRounds 15 = .ok (.istore_n 2, 1) := by decide +kernel
theorem dX1_goRounds_16 : decode cX1_goRounds 16 = .ok (.iinc 3 1, 3) := by decide +kernel
theorem dX1_goRounds_19 : decode cX1_goRounds 19 = .ok (.goto (-15), 3) := by decide +kernel
theorem dX1_goRounds_22 : decode cX1_goRounds 22 = .ok (.iload_n 2, 1) := by decide +kernel
theorem dX1_goRounds_23 : decode cX1_goRounds 23 = .ok (.ireturn, 1) := by decide +kernel
theorem dX1_goRound_0 : decode cX1_goRound 0 = .ok (.iconst 0, 1) := by decide +kernel
theorem dX1_goRound_1 : decode cX1_goRound 1 = .ok (.istore_n 1, 1) := by decide +kernel
theorem dX1_goRound_2 : decode cX1_goRound 2 = .ok (.iconst 0, 1) := by decide +kernel
theorem dX1_goRound_3 : decode cX1_goRound 3 = .ok (.istore_n 2, 1) := by decide +kernel
theorem dX1_goRound_4 : decode cX1_goRound 4 = .ok (.iload_n 2, 1) := by decide +kernel
theorem dX1_goRound_5 : decode cX1_goRound 5 = .ok (.aload_n 0, 1) := by decide +kernel
theorem dX1_goRound_6 : decode cX1_goRound 6 = .ok (.getfield 38, 3) := by decide +kernel
theorem dX1_goRound_9 : decode cX1_goRound 9 = .ok (.if_icmp .ge 33, 3) := by decide +kernel
theorem dX1_goRound_12 : decode cX1_goRound 12 = .ok (.aload_n 0, 1) := by decide +kernel
theorem dX1_goRound_13 : decode cX1_goRound 13 = .ok (.getfield 24, 3) := by decide +kernel
theorem dX1_goRound_16 : decode cX1_goRound 16 = .ok (.iload_n 2, 1) := by decide +kernel
theorem dX1_goRound_17 : decode cX1_goRound 17 = .ok (.aaload, 1) := by decide +kernel
theorem dX1_goRound_18 : decode cX1_goRound 18 = .ok (.invokevirtual 138, 3) := by decide +kernel
theorem dX1_goRound_21 : decode cX1_goRound 21 = .ok (.ifCond .eq 15, 3) := by decide +kernel
theorem dX1_goRound_24 : decode cX1_goRound 24 = .ok (.aload_n 0, 1) := by decide +kernel
theorem dX1_goRound_25 : decode cX1_goRound 25 = .ok (.iload_n 2, 1) := by decide +kernel
theorem dX1_goRound_26 : decode cX1_goRound 26 = .ok (.invokevirtual 142, 3) := by decide +kernel
theorem dX1_goRound_29 : decode cX1_goRound 29 = .ok (.iconst 1, 1) := by decide +kernel
theorem dX1_goRound_30 : decode cX1_goRound 30 = .ok (.if_icmp .ne 6, 3) := by decide +kernel
theorem dX1_goRound_33 : decode cX1_goRound 33 = .ok (.iinc 1 1, 3) := by decide +kernel
theorem dX1_goRound_36 : decode cX1_goRound 36 = .ok (.iinc 2 1, 3) := by decide +kernel
theorem dX1_goRound_39 : decode cX1_goRound 39 = .ok (.goto (-35), 3) := by decide +kernel
theorem dX1_goRound_42 : decode cX1_goRound 42 = .ok (.iload_n 1, 1) := by decide +kernel
theorem dX1_goRound_43 : decode cX1_goRound 43 = .ok (.ireturn, 1) := by decide +kernel
theorem dX1_workAlone_0 : decode cX1_workAlone 0 = .ok (.aload_n 0, 1) := by decide +kernel
theorem dX1_workAlone_1 : decode cX1_workAlone 1 = .ok (.getfield 24, 3) := by decide +kernel
theorem dX1_workAlone_4 : decode cX1_workAlone 4 = .ok (.iload_n 1, 1) := by decide +kernel
theorem dX1_workAlone_5 : decode cX1_workAlone 5 = .ok (.aaload, 1) := by decide +kernel
theorem dX1_workAlone_6 : decode cX1_workAlone 6 = .ok (.astore_n 2, 1) := by decide +kernel
theorem dX1_workAlone_7 : decode cX1_workAlone 7 = .ok (.aload_n 2, 1) := by decide +kernel
theorem dX1_workAlone_8 : decode cX1_workAlone 8 = .ok (.invokevirtual 75, 3) := by decide +kernel
theorem dX1_workAlone_11 : decode cX1_workAlone 11 = .ok (.iconst 0, 1) := by decide +kernel
theorem dX1_workAlone_12 : decode cX1_workAlone 12 = .ok (.istore_n 3, 1) := by decide +kernel
theorem dX1_workAlone_13 : decode cX1_workAlone 13 = .ok (.iload_n 3, 1) := by decide +kernel
theorem dX1_workAlone_14 : decode cX1_workAlone 14 = .ok (.bipush 8, 2) := by decide +kernel
theorem dX1_workAlone_16 : decode cX1_workAlone 16 = .ok (.if_icmp .gt 22, 3) := by decide +kernel
theorem dX1_workAlone_19 : decode cX1_workAlone 19 = .ok (.aload_n 2, 1) := by decide +kernel
theorem dX1_workAlone_20 : decode cX1_workAlone 20 = .ok (.invokevirtual 138, 3) := by decide +kernel
theorem dX1_workAlone_23 : decode cX1_workAlone 23 = .ok (.ifCond .eq 15, 3) := by decide +kernel
theorem dX1_workAlone_26 : decode cX1_workAlone 26 = .ok (.aload_n 0, 1) := by decide +kernel
theorem dX1_workAlone_27 : decode cX1_workAlone 27 = .ok (.iload_n 1, 1) := by decide +kernel
theorem dX1_workAlone_28 : decode cX1_workAlone 28 = .ok (.invokevirtual 142, 3) := by decide +kernel
theorem dX1_workAlone_31 : decode cX1_workAlone 31 = .ok (.pop, 1) := by decide +kernel
theorem dX1_workAlone_32 : decode cX1_workAlone 32 = .ok (.iinc 3 1, 3) := by decide +kernel
theorem dX1_workAlone_35 : decode cX1_workAlone 35 = .ok (.goto (-22), 3) := by decide +kernel
theorem dX1_workAlone_38 : decode cX1_workAlone 38 = .ok (.return_, 1) := by decide +kernel
theorem dX1_isAnyAtWork_0 : decode cX1_isAnyAtWork 0 = .ok (.iconst 0, 1) := by decide +kernel
theorem dX1_isAnyAtWork_1 : decode cX1_isAnyAtWork 1 = .ok (.istore_n 1, 1) := by decide +kernel
theorem dX1_isAnyAtWork_2 : decode cX1_isAnyAtWork 2 = .ok (.iload_n 1, 1) := by decide +kernel
theorem dX1_isAnyAtWork_3 : decode cX1_isAnyAtWork 3 = .ok (.aload_n 0, 1) := by decide +kernel
theorem dX1_isAnyAtWork_4 : decode cX1_isAnyAtWork 4 = .ok (.getfield 38, 3) := by decide +kernel
theorem dX1_isAnyAtWork_7 : decode cX1_isAnyAtWork 7 = .ok (.if_icmp .ge 23, 3) := by decide +kernel
theorem dX1_isAnyAtWork_10 : decode cX1_isAnyAtWork 10 = .ok (.aload_n 0, 1) := by decide +kernel
theorem dX1_isAnyAtWork_11 : decode cX1_isAnyAtWork 11 = .ok (.getfield 24, 3) := by decide +kernel
theorem dX1_isAnyAtWork_14 : decode cX1_isAnyAtWork 14 = .ok (.iload_n 1, 1) := by decide +kernel
theorem dX1_isAnyAtWork_15 : decode cX1_isAnyAtWork 15 = .ok (.aaload, 1) := by decide +kernel
theorem dX1_isAnyAtWork_16 : decode cX1_isAnyAtWork 16 = .ok (.invokevirtual 138, 3) := by decide +kernel
theorem dX1_isAnyAtWork_19 : decode cX1_isAnyAtWork 19 = .ok (.ifCond .eq 5, 3) := by decide +kernel
theorem dX1_isAnyAtWork_22 : decode cX1_isAnyAtWork 22 = .ok (.iconst 1, 1) := by decide +kernel
theorem dX1_isAnyAtWork_23 : decode cX1_isAnyAtWork 23 = .ok (.ireturn, 1) := by decide +kernel
theorem dX1_isAnyAtWork_24 : decode cX1_isAnyAtWork 24 = .ok (.iinc 1 1, 3) := by decide +kernel
theorem dX1_isAnyAtWork_27 : decode cX1_isAnyAtWork 27 = .ok (.goto (-25), 3) := by decide +kernel
theorem dX1_isAnyAtWork_30 : decode cX1_isAnyAtWork 30 = .ok (.iconst 0, 1) := by decide +kernel
theorem dX1_isAnyAtWork_31 : decode cX1_isAnyAtWork 31 = .ok (.ireturn, 1) := by decide +kernel
theorem dX1_clashes_0 : decode cX1_clashes 0 = .ok (.aload_n 0, 1) := by decide +kernel
theorem dX1_clashes_1 : decode cX1_clashes 1 = .ok (.getfield 24, 3) := by decide +kernel
theorem dX1_clashes_4 : decode cX1_clashes 4 = .ok (.iload_n 1, 1) := by decide +kernel
theorem dX1_clashes_5 : decode cX1_clashes 5 = .ok (.aaload, 1) := by decide +kernel
theorem dX1_clashes_6 : decode cX1_clashes 6 = .ok (.astore_n 3, 1) := by decide +kernel
theorem dX1_clashes_7 : decode cX1_clashes 7 = .ok (.aload_n 0, 1) := by decide +kernel
theorem dX1_clashes_8 : decode cX1_clashes 8 = .ok (.getfield 24, 3) := by decide +kernel
theorem dX1_clashes_11 : decode cX1_clashes 11 = .ok (.iload_n 2, 1) := by decide +kernel
theorem dX1_clashes_12 : decode cX1_clashes 12 = .ok (.aaload, 1) := by decide +kernel
theorem dX1_clashes_13 : decode cX1_clashes 13 = .ok (.astore 4, 2) := by decide +kernel
theorem dX1_clashes_15 : decode cX1_clashes 15 = .ok (.iload_n 1, 1) := by decide +kernel
theorem dX1_clashes_16 : decode cX1_clashes 16 = .ok (.iload_n 2, 1) := by decide +kernel
theorem dX1_clashes_17 : decode cX1_clashes 17 = .ok (.if_icmp .eq 18, 3) := by decide +kernel
theorem dX1_clashes_20 : decode cX1_clashes 20 = .ok (.aload_n 3, 1) := by decide +kernel
theorem dX1_clashes_21 : decode cX1_clashes 21 = .ok (.getfield 128, 3) := by decide +kernel
theorem dX1_clashes_24 : decode cX1_clashes 24 = .ok (.ifCond .ne 11, 3) := by decide +kernel
theorem dX1_clashes_27 : decode cX1_clashes 27 = .ok (.aload 4, 2) := by decide +kernel
theorem dX1_clashes_29 : decode cX1_clashes 29 = .ok (.getfield 128, 3) := by decide +kernel
theorem dX1_clashes_32 : decode cX1_clashes 32 = .ok (.ifCond .eq 5, 3) := by decide +kernel
theorem dX1_clashes_35 : decode cX1_clashes 35 = .ok (.iconst 0, 1) := by decide +kernel
theorem dX1_clashes_36 : decode cX1_clashes 36 = .ok (.ireturn, 1) := by decide +kernel
theorem dX1_clashes_37 : decode cX1_clashes 37 = .ok (.iconst 0, 1) := by decide +kernel
theorem dX1_clashes_38 : decode cX1_clashes 38 = .ok (.istore 5, 2) := by decide +kernel
theorem dX1_clashes_40 : decode cX1_clashes 40 = .ok (.iload 5, 2) := by decide +kernel
theorem dX1_clashes_42 : decode cX1_clashes 42 = .ok (.aload_n 0, 1) := by decide +kernel
theorem dX1_clashes_43 : decode cX1_clashes 43 = .ok (.getfield 9, 3) := by decide +kernel
theorem dX1_clashes_46 : decode cX1_clashes 46 = .ok (.if_icmp .ge 30, 3) := by decide +kernel
theorem dX1_clashes_49 : decode cX1_clashes 49 = .ok (.aload_n 3, 1) := by decide +kernel
theorem dX1_clashes_50 : decode cX1_clashes 50 = .ok (.iload 5, 2) := by decide +kernel
theorem dX1_clashes_52 : decode cX1_clashes 52 = .ok (.invokevirtual 109, 3) := by decide +kernel
theorem dX1_clashes_55 : decode cX1_clashes 55 = .ok (.ifCond .eq 15, 3) := by decide +kernel
theorem dX1_clashes_58 : decode cX1_clashes 58 = .ok (.aload 4, 2) := by decide +kernel
theorem dX1_clashes_60 : decode cX1_clashes 60 = .ok (.iload 5, 2) := by decide +kernel
theorem dX1_clashes_62 : decode cX1_clashes 62 = .ok (.invokevirtual 113, 3) := by decide +kernel
theorem dX1_clashes_65 : decode cX1_clashes 65 = .ok (.ifCond .eq 5, 3) := by decide +kernel
theorem dX1_clashes_68 : decode cX1_clashes 68 = .ok (.iconst 1, 1) := by decide +kernel
theorem dX1_clashes_69 : decode cX1_clashes 69 = .ok (.ireturn, 1) := by decide +kernel
theorem dX1_clashes_70 : decode cX1_clashes 70 = .ok (.iinc 5 1, 3) := by decide +kernel
theorem dX1_clashes_73 : decode cX1_clashes 73 = .ok (.goto (-33), 3) := by decide +kernel
theorem dX1_clashes_76 : decode cX1_clashes 76 = .ok (.iconst 0, 1) := by decide +kernel
theorem dX1_clashes_77 : decode cX1_clashes 77 = .ok (.ireturn, 1) := by decide +kernel
theorem dX1_closingsKept_0 : decode cX1_closingsKept 0 = .ok (.aload_n 0, 1) := by decide +kernel
theorem dX1_closingsKept_1 : decode cX1_closingsKept 1 = .ok (.getfield 41, 3) := by decide +kernel
theorem dX1_closingsKept_4 : decode cX1_closingsKept 4 = .ok (.bipush 10, 2) := by decide +kernel
theorem dX1_closingsKept_6 : decode cX1_closingsKept 6 = .ok (.invokestatic 122, 3) := by decide +kernel
theorem dX1_closingsKept_9 : decode cX1_closingsKept 9 = .ok (.ireturn, 1) := by decide +kernel
theorem dX1_closingFact_0 : decode cX1_closingFact 0 = .ok (.iload_n 2, 1) := by decide +kernel
theorem dX1_closingFact_1 : decode cX1_closingFact 1 = .ok (.lookupswitch 41 #[(0, 27), (1, 34)], 27) := by decide +kernel
theorem dX1_closingFact_28 : decode cX1_closingFact 28 = .ok (.aload_n 0, 1) := by decide +kernel
theorem dX1_closingFact_29 : decode cX1_closingFact 29 = .ok (.getfield 29, 3) := by decide +kernel
theorem dX1_closingFact_32 : decode cX1_closingFact 32 = .ok (.iload_n 1, 1) := by decide +kernel
theorem dX1_closingFact_33 : decode cX1_closingFact 33 = .ok (.iaload, 1) := by decide +kernel
theorem dX1_closingFact_34 : decode cX1_closingFact 34 = .ok (.ireturn, 1) := by decide +kernel
theorem dX1_closingFact_35 : decode cX1_closingFact 35 = .ok (.aload_n 0, 1) := by decide +kernel
theorem dX1_closingFact_36 : decode cX1_closingFact 36 = .ok (.getfield 32, 3) := by decide +kernel
theorem dX1_closingFact_39 : decode cX1_closingFact 39 = .ok (.iload_n 1, 1) := by decide +kernel
theorem dX1_closingFact_40 : decode cX1_closingFact 40 = .ok (.iaload, 1) := by decide +kernel
theorem dX1_closingFact_41 : decode cX1_closingFact 41 = .ok (.ireturn, 1) := by decide +kernel
theorem dX1_closingFact_42 : decode cX1_closingFact 42 = .ok (.aload_n 0, 1) := by decide +kernel
theorem dX1_closingFact_43 : decode cX1_closingFact 43 = .ok (.getfield 35, 3) := by decide +kernel
theorem dX1_closingFact_46 : decode cX1_closingFact 46 = .ok (.iload_n 1, 1) := by decide +kernel
theorem dX1_closingFact_47 : decode cX1_closingFact 47 = .ok (.iaload, 1) := by decide +kernel
theorem dX1_closingFact_48 : decode cX1_closingFact 48 = .ok (.ireturn, 1) := by decide +kernel
theorem dX1_countFact_0 : decode cX1_countFact 0 = .ok (.iload_n 1, 1) := by decide +kernel
theorem dX1_countFact_1 : decode cX1_countFact 1 = .ok (.tableswitch 69 0 5 #[39, 44, 49, 54, 59, 64], 39) := by decide +kernel
theorem dX1_countFact_40 : decode cX1_countFact 40 = .ok (.aload_n 0, 1) := by decide +kernel
theorem dX1_countFact_41 : decode cX1_countFact 41 = .ok (.getfield 9, 3) := by decide +kernel
theorem dX1_countFact_44 : decode cX1_countFact 44 = .ok (.ireturn, 1) := by decide +kernel
theorem dX1_countFact_45 : decode cX1_countFact 45 = .ok (.aload_n 0, 1) := by decide +kernel
theorem dX1_countFact_46 : decode cX1_countFact 46 = .ok (.getfield 38, 3) := by decide +kernel
theorem dX1_countFact_49 : decode cX1_countFact 49 = .ok (.ireturn, 1) := by decide +kernel
theorem dX1_countFact_50 : decode cX1_countFact 50 = .ok (.aload_n 0, 1) := by decide +kernel
theorem dX1_countFact_51 : decode cX1_countFact 51 = .ok (.invokevirtual 149, 3) := by decide +kernel
theorem dX1_countFact_54 : decode cX1_countFact 54 = .ok (.ireturn, 1) := by decide +kernel
theorem dX1_countFact_55 : decode cX1_countFact 55 = .ok (.aload_n 0, 1) := by decide +kernel
theorem dX1_countFact_56 : decode cX1_countFact 56 = .ok (.getfield 41, 3) := by decide +kernel
theorem dX1_countFact_59 : decode cX1_countFact 59 = .ok (.ireturn, 1) := by decide +kernel
theorem dX1_countFact_60 : decode cX1_countFact 60 = .ok (.aload_n 0, 1) := by decide +kernel
theorem dX1_countFact_61 : decode cX1_countFact 61 = .ok (.invokevirtual 152, 3) := by decide +kernel
theorem dX1_countFact_64 : decode cX1_countFact 64 = .ok (.ireturn, 1) := by decide +kernel
theorem dX1_countFact_65 : decode cX1_countFact 65 = .ok (.aload_n 0, 1) := by decide +kernel
theorem dX1_countFact_66 : decode cX1_countFact 66 = .ok (.invokevirtual 55, 3) := by decide +kernel
theorem dX1_countFact_69 : decode cX1_countFact 69 = .ok (.ireturn, 1) := by decide +kernel
theorem dX1_countFact_70 : decode cX1_countFact 70 = .ok (.aload_n 0, 1) := by decide +kernel
theorem dX1_countFact_71 : decode cX1_countFact 71 = .ok (.invokevirtual 155, 3) := by decide +kernel
theorem dX1_countFact_74 : decode cX1_countFact 74 = .ok (.ireturn, 1) := by decide +kernel
theorem dX1_drawerFact_0 : decode cX1_drawerFact 0 = .ok (.iload_n 2, 1) := by decide +kernel
theorem dX1_drawerFact_1 : decode cX1_drawerFact 1 = .ok (.tableswitch 47 0 2 #[27, 34, 41], 27) := by decide +kernel
theorem dX1_drawerFact_28 : decode cX1_drawerFact 28 = .ok (.aload_n 0, 1) := by decide +kernel
theorem dX1_drawerFact_29 : decode cX1_drawerFact 29 = .ok (.getfield 15, 3) := by decide +kernel
theorem dX1_drawerFact_32 : decode cX1_drawerFact 32 = .ok (.iload_n 1, 1) := by decide +kernel
theorem dX1_drawerFact_33 : decode cX1_drawerFact 33 = .ok (.iaload, 1) := by decide +kernel
theorem dX1_drawerFact_34 : decode cX1_drawerFact 34 = .ok (.ireturn, 1) := by decide +kernel
theorem dX1_drawerFact_35 : decode cX1_drawerFact 35 = .ok (.aload_n 0, 1) := by decide +kernel
theorem dX1_drawerFact_36 : decode cX1_drawerFact 36 = .ok (.getfield 19, 3) := by decide +kernel
theorem dX1_drawerFact_39 : decode cX1_drawerFact 39 = .ok (.iload_n 1, 1) := by decide +kernel
theorem dX1_drawerFact_40 : decode cX1_drawerFact 40 = .ok (.iaload, 1) := by decide +kernel
theorem dX1_drawerFact_41 : decode cX1_drawerFact 41 = .ok (.ireturn, 1) := by decide +kernel
theorem dX1_drawerFact_42 : decode cX1_drawerFact 42 = .ok (.aload_n 0, 1) := by decide +kernel
theorem dX1_drawerFact_43 : decode cX1_drawerFact 43 = .ok (.iload_n 1, 1) := by decide +kernel
theorem dX1_drawerFact_44 : decode cX1_drawerFact 44 = .ok (.invokevirtual 158, 3) := by decide +kernel
theorem dX1_drawerFact_47 : decode cX1_drawerFact 47 = .ok (.ireturn, 1) := by decide +kernel
theorem dX1_drawerFact_48 : decode cX1_drawerFact 48 = .ok (.aload_n 0, 1) := by decide +kernel
theorem dX1_drawerFact_49 : decode cX1_drawerFact 49 = .ok (.iload_n 1, 1) := by decide +kernel
theorem dX1_drawerFact_50 : decode cX1_drawerFact 50 = .ok (.invokevirtual 161, 3) := by decide +kernel
theorem dX1_drawerFact_53 : decode cX1_drawerFact 53 = .ok (.ireturn, 1) := by decide +kernel
theorem dX1_clerkFact_0 : decode cX1_clerkFact 0 = .ok (.aload_n 0, 1) := by decide +kernel
theorem dX1_clerkFact_1 : decode cX1_clerkFact 1 = .ok (.getfield 24, 3) := by decide +kernel
theorem dX1_clerkFact_4 : decode cX1_clerkFact 4 = .ok (.iload_n 1, 1) := by decide +kernel
theorem dX1_clerkFact_5 : decode cX1_clerkFact 5 = .ok (.aaload, 1) := by decide +kernel
theorem dX1_clerkFact_6 : decode cX1_clerkFact 6 = .ok (.astore_n 3, 1) := by decide +kernel
theorem dX1_clerkFact_7 : decode cX1_clerkFact 7 = .ok (.iload_n 2, 1) := by decide +kernel
theorem dX1_clerkFact_8 : decode cX1_clerkFact 8 = .ok (.tableswitch 78 0 5 #[40, 45, 50, 63, 68, 73], 40) := by decide +kernel
theorem dX1_clerkFact_48 : decode cX1_clerkFact 48 = .ok (.aload_n 3, 1) := by decide +kernel
theorem dX1_clerkFact_49 : decode cX1_clerkFact 49 = .ok (.getfield 62, 3) := by decide +kernel
theorem dX1_clerkFact_52 : decode cX1_clerkFact 52 = .ok (.ireturn, 1) := by decide +kernel
theorem dX1_clerkFact_53 : decode cX1_clerkFact 53 = .ok (.aload_n 3, 1) := by decide +kernel
theorem dX1_clerkFact_54 : decode cX1_clerkFact 54 = .ok (.getfield 59, 3) := by decide +kernel
theorem dX1_clerkFact_57 : decode cX1_clerkFact 57 = .ok (.ireturn, 1) := by decide +kernel
theorem dX1_clerkFact_58 : decode cX1_clerkFact 58 = .ok (.aload_n 3, 1) := by decide +kernel
theorem dX1_clerkFact_59 : decode cX1_clerkFact 59 = .ok (.getfield 128, 3) := by decide +kernel
theorem dX1_clerkFact_62 : decode cX1_clerkFact 62 = .ok (.ifCond .eq 7, 3) := by decide +kernel
theorem dX1_clerkFact_65 : decode cX1_clerkFact 65 = .ok (.iconst 1, 1) := by decide +kernel
theorem dX1_clerkFact_66 : decode cX1_clerkFact 66 = .ok (.goto 4, 3) := by decide +kernel
theorem dX1_clerkFact_69 : decode cX1_clerkFact 69 = .ok (.iconst 0, 1) := by decide +kernel
theorem dX1_clerkFact_70 : decode cX1_clerkFact 70 = .ok (.ireturn, 1) := by decide +kernel
theorem dX1_clerkFact_71 : decode cX1_clerkFact 71 = .ok (.aload_n 3, 1) := by decide +kernel
theorem dX1_clerkFact_72 : decode cX1_clerkFact 72 = .ok (.getfield 72, 3) := by decide +kernel
theorem dX1_clerkFact_75 : decode cX1_clerkFact 75 = .ok (.ireturn, 1) := by decide +kernel
theorem dX1_clerkFact_76 : decode cX1_clerkFact 76 = .ok (.aload_n 3, 1) := by decide +kernel
theorem dX1_clerkFact_77 : decode cX1_clerkFact 77 = .ok (.invokevirtual 164, 3) := by decide +kernel
theorem dX1_clerkFact_80 : decode cX1_clerkFact 80 = .ok (.ireturn, 1) := by decide +kernel
theorem dX1_clerkFact_81 : decode cX1_clerkFact 81 = .ok (.aload_n 3, 1) := by decide +kernel
theorem dX1_clerkFact_82 : decode cX1_clerkFact 82 = .ok (.invokevirtual 132, 3) := by decide +kernel
theorem dX1_clerkFact_85 : decode cX1_clerkFact 85 = .ok (.ireturn, 1) := by decide +kernel
theorem dX1_clerkFact_86 : decode cX1_clerkFact 86 = .ok (.aload_n 0, 1) := by decide +kernel
theorem dX1_clerkFact_87 : decode cX1_clerkFact 87 = .ok (.aload_n 3, 1) := by decide +kernel
theorem dX1_clerkFact_88 : decode cX1_clerkFact 88 = .ok (.invokevirtual 167, 3) := by decide +kernel
theorem dX1_clerkFact_91 : decode cX1_clerkFact 91 = .ok (.ifCond .eq 7, 3) := by decide +kernel
theorem dX1_clerkFact_94 : decode cX1_clerkFact 94 = .ok (.iconst 1, 1) := by decide +kernel
theorem dX1_clerkFact_95 : decode cX1_clerkFact 95 = .ok (.goto 4, 3) := by decide +kernel
theorem dX1_clerkFact_98 : decode cX1_clerkFact 98 = .ok (.iconst 0, 1) := by decide +kernel
theorem dX1_clerkFact_99 : decode cX1_clerkFact 99 = .ok (.ireturn, 1) := by decide +kernel
theorem dX1_wouldLose_0 : decode cX1_wouldLose 0 = .ok (.aload_n 1, 1) := by decide +kernel
theorem dX1_wouldLose_1 : decode cX1_wouldLose 1 = .ok (.getfield 128, 3) := by decide +kernel
theorem dX1_wouldLose_4 : decode cX1_wouldLose 4 = .ok (.ifCond .ne 15, 3) := by decide +kernel
theorem dX1_wouldLose_7 : decode cX1_wouldLose 7 = .ok (.aload_n 0, 1) := by decide +kernel
theorem dX1_wouldLose_8 : decode cX1_wouldLose 8 = .ok (.aload_n 1, 1) := by decide +kernel
theorem dX1_wouldLose_9 : decode cX1_wouldLose 9 = .ok (.invokevirtual 68, 3) := by decide +kernel
theorem dX1_wouldLose_12 : decode cX1_wouldLose 12 = .ok (.ifCond .eq 7, 3) := by decide +kernel
theorem dX1_wouldLose_15 : decode cX1_wouldLose 15 = .ok (.iconst 1, 1) := by decide +kernel
theorem dX1_wouldLose_16 : decode cX1_wouldLose 16 = .ok (.goto 4, 3) := by decide +kernel
theorem dX1_wouldLose_19 : decode cX1_wouldLose 19 = .ok (.iconst 0, 1) := by decide +kernel
theorem dX1_wouldLose_20 : decode cX1_wouldLose 20 = .ok (.ireturn, 1) := by decide +kernel
theorem dX1_countDone_0 : decode cX1_countDone 0 = .ok (.iconst 0, 1) := by decide +kernel
theorem dX1_countDone_1 : decode cX1_countDone 1 = .ok (.istore_n 1, 1) := by decide +kernel
theorem dX1_countDone_2 : decode cX1_countDone 2 = .ok (.iconst 0, 1) := by decide +kernel
theorem dX1_countDone_3 : decode cX1_countDone 3 = .ok (.istore_n 2, 1) := by decide +kernel
theorem dX1_countDone_4 : decode cX1_countDone 4 = .ok (.iload_n 2, 1) := by decide +kernel
theorem dX1_countDone_5 : decode cX1_countDone 5 = .ok (.aload_n 0, 1) := by decide +kernel
theorem dX1_countDone_6 : decode cX1_countDone 6 = .ok (.getfield 38, 3) := by decide +kernel
theorem dX1_countDone_9 : decode cX1_countDone 9 = .ok (.if_icmp .ge 29, 3) := by decide +kernel
theorem dX1_countDone_12 : decode cX1_countDone 12 = .ok (.iload_n 1, 1) := by decide +kernel
theorem dX1_countDone_13 : decode cX1_countDone 13 = .ok (.aload_n 0, 1) := by decide +kernel
theorem dX1_countDone_14 : decode cX1_countDone 14 = .ok (.getfield 24, 3) := by decide +kernel
theorem dX1_countDone_17 : decode cX1_countDone 17 = .ok (.iload_n 2, 1) := by decide +kernel
theorem dX1_countDone_18 : decode cX1_countDone 18 = .ok (.aaload, 1) := by decide +kernel
theorem dX1_countDone_19 : decode cX1_countDone 19 = .ok (.getfield 128, 3) := by decide +kernel
theorem dX1_countDone_22 : decode cX1_countDone 22 = .ok (.ifCond .eq 7, 3) := by decide +kernel
theorem dX1_countDone_25 : decode cX1_countDone 25 = .ok (.iconst 1, 1) := by decide +kernel
theorem dX1_countDone_26 : decode cX1_countDone 26 = .ok (.goto 4, 3) := by decide +kernel
theorem dX1_countDone_29 : decode cX1_countDone 29 = .ok (.iconst 0, 1) := by decide +kernel
theorem dX1_countDone_30 : decode cX1_countDone 30 = .ok (.iadd, 1) := by decide +kernel
theorem dX1_countDone_31 : decode cX1_countDone 31 = .ok (.istore_n 1, 1) := by decide +kernel
theorem dX1_countDone_32 : decode cX1_countDone 32 = .ok (.iinc 2 1, 3) := by decide +kernel
theorem dX1_countDone_35 : decode cX1_countDone 35 = .ok (.goto (-31), 3) := by decide +kernel
theorem dX1_countDone_38 : decode cX1_countDone 38 = .ok (.iload_n 1, 1) := by decide +kernel
theorem dX1_countDone_39 : decode cX1_countDone 39 = .ok (.ireturn, 1) := by decide +kernel
theorem dX1_countLosers_0 : decode cX1_countLosers 0 = .ok (.iconst 0, 1) := by decide +kernel
theorem dX1_countLosers_1 : decode cX1_countLosers 1 = .ok (.istore_n 1, 1) := by decide +kernel
theorem dX1_countLosers_2 : decode cX1_countLosers 2 = .ok (.iconst 0, 1) := by decide +kernel
theorem dX1_countLosers_3 : decode cX1_countLosers 3 = .ok (.istore_n 2, 1) := by decide +kernel
theorem dX1_countLosers_4 : decode cX1_countLosers 4 = .ok (.iload_n 2, 1) := by decide +kernel
theorem dX1_countLosers_5 : decode cX1_countLosers 5 = .ok (.aload_n 0, 1) := by decide +kernel
theorem dX1_countLosers_6 : decode cX1_countLosers 6 = .ok (.getfield 38, 3) := by decide +kernel
theorem dX1_countLosers_9 : decode cX1_countLosers 9 = .ok (.if_icmp .ge 30, 3) := by decide +kernel
theorem dX1_countLosers_12 : decode cX1_countLosers 12 = .ok (.iload_n 1, 1) := by decide +kernel
theorem dX1_countLosers_13 : decode cX1_countLosers 13 = .ok (.aload_n 0, 1) := by decide +kernel
theorem dX1_countLosers_14 : decode cX1_countLosers 14 = .ok (.aload_n 0, 1) := by decide +kernel
theorem dX1_countLosers_15 : decode cX1_countLosers 15 = .ok (.getfield 24, 3) := by decide +kernel
theorem dX1_countLosers_18 : decode cX1_countLosers 18 = .ok (.iload_n 2, 1) := by decide +kernel
theorem dX1_countLosers_19 : decode cX1_countLosers 19 = .ok (.aaload, 1) := by decide +kernel
theorem dX1_countLosers_20 : decode cX1_countLosers 20 = .ok (.invokevirtual 167, 3) := by decide +kernel
theorem dX1_countLosers_23 : decode cX1_countLosers 23 = .ok (.ifCond .eq 7, 3) := by decide +kernel
theorem dX1_countLosers_26 : decode cX1_countLosers 26 = .ok (.iconst 1, 1) := by decide +kernel
theorem dX1_countLosers_27 : decode cX1_countLosers 27 = .ok (.goto 4, 3) := by decide +kernel
theorem dX1_countLosers_30 : decode cX1_countLosers 30 = .ok (.iconst 0, 1) := by decide +kernel
theorem dX1_countLosers_31 : decode cX1_countLosers 31 = .ok (.iadd, 1) := by decide +kernel
theorem dX1_countLosers_32 : decode cX1_countLosers 32 = .ok (.istore_n 1, 1) := by decide +kernel
theorem dX1_countLosers_33 : decode cX1_countLosers 33 = .ok (.iinc 2 1, 3) := by decide +kernel
theorem dX1_countLosers_36 : decode cX1_countLosers 36 = .ok (.goto (-32), 3) := by decide +kernel
theorem dX1_countLosers_39 : decode cX1_countLosers 39 = .ok (.iload_n 1, 1) := by decide +kernel
theorem dX1_countLosers_40 : decode cX1_countLosers 40 = .ok (.ireturn, 1) := by decide +kernel
theorem dX1_countRememberers_0 : decode cX1_countRememberers 0 = .ok (.iconst 0, 1) := by decide +kernel
theorem dX1_countRememberers_1 : decode cX1_countRememberers 1 = .ok (.istore_n 2, 1) := by decide +kernel
theorem dX1_countRememberers_2 : decode cX1_countRememberers 2 = .ok (.iconst 0, 1) := by decide +kernel
theorem dX1_countRememberers_3 : decode cX1_countRememberers 3 = .ok (.istore_n 3, 1) := by decide +kernel
theorem dX1_countRememberers_4 : decode cX1_countRememberers 4 = .ok (.iload_n 3, 1) := by decide +kernel
theorem dX1_countRememberers_5 : decode cX1_countRememberers 5 = .ok (.aload_n 0, 1) := by decide +kernel
theorem dX1_countRememberers_6 : decode cX1_countRememberers 6 = .ok (.getfield 38, 3) := by decide +kernel
theorem dX1_countRememberers_9 : decode cX1_countRememberers 9 = .ok (.if_icmp .ge 42, 3) := by decide +kernel
theorem dX1_countRememberers_12 : decode cX1_countRememberers 12 = .ok (.iload_n 2, 1) := by decide +kernel
theorem dX1_countRememberers_13 : decode cX1_countRememberers 13 = .ok (.aload_n 0, 1) := by decide +kernel
theorem dX1_countRememberers_14 : decode cX1_countRememberers 14 = .ok (.getfield 24, 3) := by decide +kernel
theorem dX1_countRememberers_17 : decode cX1_countRememberers 17 = .ok (.iload_n 3, 1) := by decide +kernel
theorem dX1_countRememberers_18 : decode cX1_countRememberers 18 = .ok (.aaload, 1) := by decide +kernel
theorem dX1_countRememberers_19 : decode cX1_countRememberers 19 = .ok (.getfield 128, 3) := by decide +kernel
theorem dX1_countRememberers_22 : decode cX1_countRememberers 22 = .ok (.ifCond .ne 20, 3) := by decide +kernel
theorem dX1_countRememberers_25 : decode cX1_countRememberers 25 = .ok (.aload_n 0, 1) := by decide +kernel
theorem dX1_countRememberers_26 : decode cX1_countRememberers 26 = .ok (.getfield 24, 3) := by decide +kernel
theorem dX1_countRememberers_29 : decode cX1_countRememberers 29 = .ok (.iload_n 3, 1) := by decide +kernel
theorem dX1_countRememberers_30 : decode cX1_countRememberers 30 = .ok (.aaload, 1) := by decide +kernel
theorem dX1_countRememberers_31 : decode cX1_countRememberers 31 = .ok (.iload_n 1, 1) := by decide +kernel
theorem dX1_countRememberers_32 : decode cX1_countRememberers 32 = .ok (.invokevirtual 113, 3) := by decide +kernel
theorem dX1_countRememberers_35 : decode cX1_countRememberers 35 = .ok (.ifCond .eq 7, 3) := by decide +kernel
theorem dX1_countRememberers_38 : decode cX1_countRememberers 38 = .ok (.iconst 1, 1) := by decide +kernel
theorem dX1_countRememberers_39 : decode cX1_countRememberers 39 = .ok (.goto 4, 3) := by decide +kernel
theorem dX1_countRememberers_42 : decode cX1_countRememberers 42 = .ok (.iconst 0, 1) := by decide +kernel
theorem dX1_countRememberers_43 : decode cX1_countRememberers 43 = .ok (.iadd, 1) := by decide +kernel
theorem dX1_countRememberers_44 : decode cX1_countRememberers 44 = .ok (.istore_n 2, 1) := by decide +kernel
theorem dX1_countRememberers_45 : decode cX1_countRememberers 45 = .ok (.iinc 3 1, 3) := by decide +kernel
theorem dX1_countRememberers_48 : decode cX1_countRememberers 48 = .ok (.goto (-44), 3) := by decide +kernel
theorem dX1_countRememberers_51 : decode cX1_countRememberers 51 = .ok (.iload_n 2, 1) := by decide +kernel
theorem dX1_countRememberers_52 : decode cX1_countRememberers 52 = .ok (.ireturn, 1) := by decide +kernel
theorem dX1_countWriters_0 : decode cX1_countWriters 0 = .ok (.iconst 0, 1) := by decide +kernel
theorem dX1_countWriters_1 : decode cX1_countWriters 1 = .ok (.istore_n 2, 1) := by decide +kernel
theorem dX1_countWriters_2 : decode cX1_countWriters 2 = .ok (.iconst 0, 1) := by decide +kernel
theorem dX1_countWriters_3 : decode cX1_countWriters 3 = .ok (.istore_n 3, 1) := by decide +kernel
theorem dX1_countWriters_4 : decode cX1_countWriters 4 = .ok (.iload_n 3, 1) := by decide +kernel
theorem dX1_countWriters_5 : decode cX1_countWriters 5 = .ok (.aload_n 0, 1) := by decide +kernel
theorem dX1_countWriters_6 : decode cX1_countWriters 6 = .ok (.getfield 38, 3) := by decide +kernel
theorem dX1_countWriters_9 : decode cX1_countWriters 9 = .ok (.if_icmp .ge 42, 3) := by decide +kernel
theorem dX1_countWriters_12 : decode cX1_countWriters 12 = .ok (.iload_n 2, 1) := by decide +kernel
theorem dX1_countWriters_13 : decode cX1_countWriters 13 = .ok (.aload_n 0, 1) := by decide +kernel
theorem dX1_countWriters_14 : decode cX1_countWriters 14 = .ok (.getfield 24, 3) := by decide +kernel
theorem dX1_countWriters_17 : decode cX1_countWriters 17 = .ok (.iload_n 3, 1) := by decide +kernel
theorem dX1_countWriters_18 : decode cX1_countWriters 18 = .ok (.aaload, 1) := by decide +kernel
theorem dX1_countWriters_19 : decode cX1_countWriters 19 = .ok (.getfield 128, 3) := by decide +kernel
theorem dX1_countWriters_22 : decode cX1_countWriters 22 = .ok (.ifCond .ne 20, 3) := by decide +kernel
theorem dX1_countWriters_25 : decode cX1_countWriters 25 = .ok (.aload_n 0, 1) := by decide +kernel
theorem dX1_countWriters_26 : decode cX1_countWriters 26 = .ok (.getfield 24, 3) := by decide +kernel
theorem dX1_countWriters_29 : decode cX1_countWriters 29 = .ok (.iload_n 3, 1) := by decide +kernel
theorem dX1_countWriters_30 : decode cX1_countWriters 30 = .ok (.aaload, 1) := by decide +kernel
theorem dX1_countWriters_31 : decode cX1_countWriters 31 = .ok (.iload_n 1, 1) := by decide +kernel
theorem dX1_countWriters_32 : decode cX1_countWriters 32 = .ok (.invokevirtual 109, 3) := by decide +kernel
theorem dX1_countWriters_35 : decode cX1_countWriters 35 = .ok (.ifCond .eq 7, 3) := by decide +kernel
theorem dX1_countWriters_38 : decode cX1_countWriters 38 = .ok (.iconst 1, 1) := by decide +kernel
theorem dX1_countWriters_39 : decode cX1_countWriters 39 = .ok (.goto 4, 3) := by decide +kernel
theorem dX1_countWriters_42 : decode cX1_countWriters 42 = .ok (.iconst 0, 1) := by decide +kernel
theorem dX1_countWriters_43 : decode cX1_countWriters 43 = .ok (.iadd, 1) := by decide +kernel
theorem dX1_countWriters_44 : decode cX1_countWriters 44 = .ok (.istore_n 2, 1) := by decide +kernel
theorem dX1_countWriters_45 : decode cX1_countWriters 45 = .ok (.iinc 3 1, 3) := by decide +kernel
theorem dX1_countWriters_48 : decode cX1_countWriters 48 = .ok (.goto (-44), 3) := by decide +kernel
theorem dX1_countWriters_51 : decode cX1_countWriters 51 = .ok (.iload_n 2, 1) := by decide +kernel
theorem dX1_countWriters_52 : decode cX1_countWriters 52 = .ok (.ireturn, 1) := by decide +kernel
theorem dX1_sumLost_0 : decode cX1_sumLost 0 = .ok (.iconst 0, 1) := by decide +kernel
theorem dX1_sumLost_1 : decode cX1_sumLost 1 = .ok (.istore_n 1, 1) := by decide +kernel
theorem dX1_sumLost_2 : decode cX1_sumLost 2 = .ok (.iconst 0, 1) := by decide +kernel
theorem dX1_sumLost_3 : decode cX1_sumLost 3 = .ok (.istore_n 2, 1) := by decide +kernel
theorem dX1_sumLost_4 : decode cX1_sumLost 4 = .ok (.iload_n 2, 1) := by decide +kernel
theorem dX1_sumLost_5 : decode cX1_sumLost 5 = .ok (.aload_n 0, 1) := by decide +kernel
theorem dX1_sumLost_6 : decode cX1_sumLost 6 = .ok (.getfield 38, 3) := by decide +kernel
theorem dX1_sumLost_9 : decode cX1_sumLost 9 = .ok (.if_icmp .ge 21, 3) := by decide +kernel
theorem dX1_sumLost_12 : decode cX1_sumLost 12 = .ok (.iload_n 1, 1) := by decide +kernel
theorem dX1_sumLost_13 : decode cX1_sumLost 13 = .ok (.aload_n 0, 1) := by decide +kernel
theorem dX1_sumLost_14 : decode cX1_sumLost 14 = .ok (.getfield 24, 3) := by decide +kernel
theorem dX1_sumLost_17 : decode cX1_sumLost 17 = .ok (.iload_n 2, 1) := by decide +kernel
theorem dX1_sumLost_18 : decode cX1_sumLost 18 = .ok (.aaload, 1) := by decide +kernel
theorem dX1_sumLost_19 : decode cX1_sumLost 19 = .ok (.getfield 72, 3) := by decide +kernel
theorem dX1_sumLost_22 : decode cX1_sumLost 22 = .ok (.iadd, 1) := by decide +kernel
theorem dX1_sumLost_23 : decode cX1_sumLost 23 = .ok (.istore_n 1, 1) := by decide +kernel
theorem dX1_sumLost_24 : decode cX1_sumLost 24 = .ok (.iinc 2 1, 3) := by decide +kernel
theorem dX1_sumLost_27 : decode cX1_sumLost 27 = .ok (.goto (-23), 3) := by decide +kernel
theorem dX1_sumLost_30 : decode cX1_sumLost 30 = .ok (.iload_n 1, 1) := by decide +kernel
theorem dX1_sumLost_31 : decode cX1_sumLost 31 = .ok (.ireturn, 1) := by decide +kernel
theorem dX1_sumAmounts_0 : decode cX1_sumAmounts 0 = .ok (.iconst 0, 1) := by decide +kernel
theorem dX1_sumAmounts_1 : decode cX1_sumAmounts 1 = .ok (.istore_n 1, 1) := by decide +kernel
theorem dX1_sumAmounts_2 : decode cX1_sumAmounts 2 = .ok (.iconst 0, 1) := by decide +kernel
theorem dX1_sumAmounts_3 : decode cX1_sumAmounts 3 = .ok (.istore_n 2, 1) := by decide +kernel
theorem dX1_sumAmounts_4 : decode cX1_sumAmounts 4 = .ok (.iload_n 2, 1) := by decide +kernel
theorem dX1_sumAmounts_5 : decode cX1_sumAmounts 5 = .ok (.aload_n 0, 1) := by decide +kernel
theorem dX1_sumAmounts_6 : decode cX1_sumAmounts 6 = .ok (.getfield 9, 3) := by decide +kernel
theorem dX1_sumAmounts_9 : decode cX1_sumAmounts 9 = .ok (.if_icmp .ge 18, 3) := by decide +kernel
theorem dX1_sumAmounts_12 : decode cX1_sumAmounts 12 = .ok (.iload_n 1, 1) := by decide +kernel
theorem dX1_sumAmounts_13 : decode cX1_sumAmounts 13 = .ok (.aload_n 0, 1) := by decide +kernel
theorem dX1_sumAmounts_14 : decode cX1_sumAmounts 14 = .ok (.getfield 15, 3) := by decide +kernel
theorem dX1_sumAmounts_17 : decode cX1_sumAmounts 17 = .ok (.iload_n 2, 1) := by decide +kernel
theorem dX1_sumAmounts_18 : decode cX1_sumAmounts 18 = .ok (.iaload, 1) := by decide +kernel
theorem dX1_sumAmounts_19 : decode cX1_sumAmounts 19 = .ok (.iadd, 1) := by decide +kernel
theorem dX1_sumAmounts_20 : decode cX1_sumAmounts 20 = .ok (.istore_n 1, 1) := by decide +kernel
theorem dX1_sumAmounts_21 : decode cX1_sumAmounts 21 = .ok (.iinc 2 1, 3) := by decide +kernel
theorem dX1_sumAmounts_24 : decode cX1_sumAmounts 24 = .ok (.goto (-20), 3) := by decide +kernel
theorem dX1_sumAmounts_27 : decode cX1_sumAmounts 27 = .ok (.iload_n 1, 1) := by decide +kernel
theorem dX1_sumAmounts_28 : decode cX1_sumAmounts 28 = .ok (.ireturn, 1) := by decide +kernel
theorem dX2_init_0 : decode cX2_init 0 = .ok (.aload_n 0, 1) := by decide +kernel
theorem dX2_init_1 : decode cX2_init 1 = .ok (.invokespecial 1, 3) := by decide +kernel
theorem dX2_init_4 : decode cX2_init 4 = .ok (.aload_n 0, 1) := by decide +kernel
theorem dX2_init_5 : decode cX2_init 5 = .ok (.new 7, 3) := by decide +kernel
theorem dX2_init_8 : decode cX2_init 8 = .ok (.dup, 1) := by decide +kernel
theorem dX2_init_9 : decode cX2_init 9 = .ok (.invokespecial 9, 3) := by decide +kernel
theorem dX2_init_12 : decode cX2_init 12 = .ok (.putfield 10, 3) := by decide +kernel
theorem dX2_init_15 : decode cX2_init 15 = .ok (.aload_n 0, 1) := by decide +kernel
theorem dX2_init_16 : decode cX2_init 16 = .ok (.new 7, 3) := by decide +kernel
theorem dX2_init_19 : decode cX2_init 19 = .ok (.dup, 1) := by decide +kernel
theorem dX2_init_20 : decode cX2_init 20 = .ok (.invokespecial 9, 3) := by decide +kernel
theorem dX2_init_23 : decode cX2_init 23 = .ok (.putfield 16, 3) := by decide +kernel
theorem dX2_init_26 : decode cX2_init 26 = .ok (.return_, 1) := by decide +kernel
theorem dX2_till_0 : decode cX2_till 0 = .ok (.iload_n 1, 1) := by decide +kernel
theorem dX2_till_1 : decode cX2_till 1 = .ok (.iconst 1, 1) := by decide +kernel
theorem dX2_till_2 : decode cX2_till 2 = .ok (.if_icmp .lt 9, 3) := by decide +kernel
theorem dX2_till_5 : decode cX2_till 5 = .ok (.iload_n 1, 1) := by decide +kernel
theorem dX2_till_6 : decode cX2_till 6 = .ok (.bipush 8, 2) := by decide +kernel
theorem dX2_till_8 : decode cX2_till 8 = .ok (.if_icmp .le 13, 3) := by decide +kernel
theorem dX2_till_11 : decode cX2_till 11 = .ok (.new 19, 3) := by decide +kernel
theorem dX2_till_14 : decode cX2_till 14 = .ok (.dup, 1) := by decide +kernel
theorem dX2_till_15 : decode cX2_till 15 = .ok (.ldc 21, 2) := by decide +kernel
theorem dX2_till_17 : decode cX2_till 17 = .ok (.invokespecial 23, 3) := by decide +kernel
theorem dX2_till_20 : decode cX2_till 20 = .ok (.athrow, 1) := by decide +kernel
theorem dX2_till_21 : decode cX2_till 21 = .ok (.aload_n 0, 1) := by decide +kernel
theorem dX2_till_22 : decode cX2_till 22 = .ok (.getfield 10, 3) := by decide +kernel
theorem dX2_till_25 : decode cX2_till 25 = .ok (.getfield 26, 3) := by decide +kernel
theorem dX2_till_28 : decode cX2_till 28 = .ok (.istore_n 2, 1) := by decide +kernel
theorem dX2_till_29 : decode cX2_till 29 = .ok (.aload_n 0, 1) := by decide +kernel
theorem dX2_till_30 : decode cX2_till 30 = .ok (.getfield 10, 3) := by decide +kernel
theorem dX2_till_33 : decode cX2_till 33 = .ok (.iload_n 1, 1) := by decide +kernel
theorem dX2_till_34 : decode cX2_till 34 = .ok (.invokevirtual 30, 3) := by decide +kernel
theorem dX2_till_37 : decode cX2_till 37 = .ok (.iload_n 2, 1) := by decide +kernel
theorem dX2_till_38 : decode cX2_till 38 = .ok (.ireturn, 1) := by decide +kernel
theorem dX2_pay_0 : decode cX2_pay 0 = .ok (.aload_n 0, 1) := by decide +kernel
theorem dX2_pay_1 : decode cX2_pay 1 = .ok (.iload_n 1, 1) := by decide +kernel
theorem dX2_pay_2 : decode cX2_pay 2 = .ok (.invokevirtual 34, 3) := by decide +kernel
theorem dX2_pay_5 : decode cX2_pay 5 = .ok (.iload_n 2, 1) := by decide +kernel
theorem dX2_pay_6 : decode cX2_pay 6 = .ok (.ifCond .lt 10, 3) := by decide +kernel
theorem dX2_pay_9 : decode cX2_pay 9 = .ok (.iload_n 2, 1) := by decide +kernel
theorem dX2_pay_10 : decode cX2_pay 10 = .ok (.sipush 9999, 3) := by decide +kernel
theorem dX2_pay_13 : decode cX2_pay 13 = .ok (.if_icmp .le 13, 3) := by decide +kernel
theorem dX2_pay_16 : decode cX2_pay 16 = .ok (.new 19, 3) := by decide +kernel
theorem dX2_pay_19 : decode cX2_pay 19 = .ok (.dup, 1) := by decide +kernel
theorem dX2_pay_20 : decode cX2_pay 20 = .ok (.ldc 37, 2) := by decide +kernel
theorem dX2_pay_22 : decode cX2_pay 22 = .ok (.invokespecial 23, 3) := by decide +kernel
theorem dX2_pay_25 : decode cX2_pay 25 = .ok (.athrow, 1) := by decide +kernel
theorem dX2_pay_26 : decode cX2_pay 26 = .ok (.aload_n 0, 1) := by decide +kernel
theorem dX2_pay_27 : decode cX2_pay 27 = .ok (.getfield 10, 3) := by decide +kernel
theorem dX2_pay_30 : decode cX2_pay 30 = .ok (.getfield 39, 3) := by decide +kernel
theorem dX2_pay_33 : decode cX2_pay 33 = .ok (.iload_n 1, 1) := by decide +kernel
theorem dX2_pay_34 : decode cX2_pay 34 = .ok (.iaload, 1) := by decide +kernel
theorem dX2_pay_35 : decode cX2_pay 35 = .ok (.istore_n 3, 1) := by decide +kernel
theorem dX2_pay_36 : decode cX2_pay 36 = .ok (.aload_n 0, 1) := by decide +kernel
theorem dX2_pay_37 : decode cX2_pay 37 = .ok (.getfield 10, 3) := by decide +kernel
theorem dX2_pay_40 : decode cX2_pay 40 = .ok (.iload_n 1, 1) := by decide +kernel
theorem dX2_pay_41 : decode cX2_pay 41 = .ok (.iload_n 2, 1) := by decide +kernel
theorem dX2_pay_42 : decode cX2_pay 42 = .ok (.invokevirtual 43, 3) := by decide +kernel
theorem dX2_pay_45 : decode cX2_pay 45 = .ok (.iload_n 3, 1) := by decide +kernel
theorem dX2_pay_46 : decode cX2_pay 46 = .ok (.ireturn, 1) := by decide +kernel
theorem dX2_clerk_0 : decode cX2_clerk 0 = .ok (.aload_n 0, 1) := by decide +kernel
theorem dX2_clerk_1 : decode cX2_clerk 1 = .ok (.getfield 10, 3) := by decide +kernel
theorem dX2_clerk_4 : decode cX2_clerk 4 = .ok (.getfield 47, 3) := by decide +kernel
theorem dX2_clerk_7 : decode cX2_clerk 7 = .ok (.bipush 6, 2) := by decide +kernel
theorem dX2_clerk_9 : decode cX2_clerk 9 = .ok (.if_icmp .lt 13, 3) := by decide +kernel
theorem dX2_clerk_12 : decode cX2_clerk 12 = .ok (.new 50, 3) := by decide +kernel
theorem dX2_clerk_15 : decode cX2_clerk 15 = .ok (.dup, 1) := by decide +kernel
theorem dX2_clerk_16 : decode cX2_clerk 16 = .ok (.ldc 52, 2) := by decide +kernel
theorem dX2_clerk_18 : decode cX2_clerk 18 = .ok (.invokespecial 54, 3) := by decide +kernel
theorem dX2_clerk_21 : decode cX2_clerk 21 = .ok (.athrow, 1) := by decide +kernel
theorem dX2_clerk_22 : decode cX2_clerk 22 = .ok (.aload_n 0, 1) := by decide +kernel
theorem dX2_clerk_23 : decode cX2_clerk 23 = .ok (.getfield 10, 3) := by decide +kernel
theorem dX2_clerk_26 : decode cX2_clerk 26 = .ok (.invokevirtual 55, 3) := by decide +kernel
theorem dX2_clerk_29 : decode cX2_clerk 29 = .ok (.ireturn, 1) := by decide +kernel
theorem dX2_say_0 : decode cX2_say 0 = .ok (.aload_n 0, 1) := by decide +kernel
theorem dX2_say_1 : decode cX2_say 1 = .ok (.iload_n 1, 1) := by decide +kernel
theorem dX2_say_2 : decode cX2_say 2 = .ok (.invokevirtual 59, 3) := by decide +kernel
theorem dX2_say_5 : decode cX2_say 5 = .ok (.iload_n 2, 1) := by decide +kernel
theorem dX2_say_6 : decode cX2_say 6 = .ok (.iconst 0, 1) := by decide +kernel
theorem dX2_say_7 : decode cX2_say 7 = .ok (.iconst 3, 1) := by decide +kernel
theorem dX2_say_8 : decode cX2_say 8 = .ok (.invokestatic 62, 3) := by decide +kernel
theorem dX2_say_11 : decode cX2_say 11 = .ok (.aload_n 0, 1) := by decide +kernel
theorem dX2_say_12 : decode cX2_say 12 = .ok (.iload_n 3, 1) := by decide +kernel
theorem dX2_say_13 : decode cX2_say 13 = .ok (.invokevirtual 34, 3) := by decide +kernel
theorem dX2_say_16 : decode cX2_say 16 = .ok (.aload_n 0, 1) := by decide +kernel
theorem dX2_say_17 : decode cX2_say 17 = .ok (.iload 4, 2) := by decide +kernel
theorem dX2_say_19 : decode cX2_say 19 = .ok (.invokevirtual 34, 3) := by decide +kernel
theorem dX2_say_22 : decode cX2_say 22 = .ok (.iload_n 2, 1) := by decide +kernel
theorem dX2_say_23 : decode cX2_say 23 = .ok (.iload_n 3, 1) := by decide +kernel
theorem dX2_say_24 : decode cX2_say 24 = .ok (.iload 4, 2) := by decide +kernel
theorem dX2_say_26 : decode cX2_say 26 = .ok (.iload 5, 2) := by decide +kernel
theorem dX2_say_28 : decode cX2_say 28 = .ok (.invokestatic 66, 3) := by decide +kernel
theorem dX2_say_31 : decode cX2_say 31 = .ok (.ifCond .ne 13, 3) := by decide +kernel
theorem dX2_say_34 : decode cX2_say 34 = .ok (.new 19, 3) := by decide +kernel
theorem dX2_say_37 : decode cX2_say 37 = .ok (.dup, 1) := by decide +kernel
theorem dX2_say_38 : decode cX2_say 38 = .ok (.ldc 70, 2) := by decide +kernel
theorem dX2_say_40 : decode cX2_say 40 = .ok (.invokespecial 23, 3) := by decide +kernel
theorem dX2_say_43 : decode cX2_say 43 = .ok (.athrow, 1) := by decide +kernel
theorem dX2_say_44 : decode cX2_say 44 = .ok (.aload_n 0, 1) := by decide +kernel
theorem dX2_say_45 : decode cX2_say 45 = .ok (.getfield 10, 3) := by decide +kernel
theorem dX2_say_48 : decode cX2_say 48 = .ok (.getfield 72, 3) := by decide +kernel
theorem dX2_say_51 : decode cX2_say 51 = .ok (.iload_n 1, 1) := by decide +kernel
theorem dX2_say_52 : decode cX2_say 52 = .ok (.aaload, 1) := by decide +kernel
theorem dX2_say_53 : decode cX2_say 53 = .ok (.astore 6, 2) := by decide +kernel
theorem dX2_say_55 : decode cX2_say 55 = .ok (.aload 6, 2) := by decide +kernel
theorem dX2_say_57 : decode cX2_say 57 = .ok (.getfield 76, 3) := by decide +kernel
theorem dX2_say_60 : decode cX2_say 60 = .ok (.ifCond .ne 21, 3) := by decide +kernel
theorem dX2_say_63 : decode cX2_say 63 = .ok (.aload 6, 2) := by decide +kernel
theorem dX2_say_65 : decode cX2_say 65 = .ok (.getfield 82, 3) := by decide +kernel
theorem dX2_say_68 : decode cX2_say 68 = .ok (.ifCond .ne 13, 3) := by decide +kernel
theorem dX2_say_71 : decode cX2_say 71 = .ok (.aload 6, 2) := by decide +kernel
theorem dX2_say_73 : decode cX2_say 73 = .ok (.getfield 85, 3) := by decide +kernel
theorem dX2_say_76 : decode cX2_say 76 = .ok (.bipush 8, 2) := by decide +kernel
theorem dX2_say_78 : decode cX2_say 78 = .ok (.if_icmp .lt 13, 3) := by decide +kernel
theorem dX2_say_81 : decode cX2_say 81 = .ok (.new 50, 3) := by decide +kernel
theorem dX2_say_84 : decode cX2_say 84 = .ok (.dup, 1) := by decide +kernel
theorem dX2_say_85 : decode cX2_say 85 = .ok (.ldc 88, 2) := by decide +kernel
theorem dX2_say_87 : decode cX2_say 87 = .ok (.invokespecial 54, 3) := by decide +kernel
theorem dX2_say_90 : decode cX2_say 90 = .ok (.athrow, 1) := by decide +kernel
theorem dX2_say_91 : decode cX2_say 91 = .ok (.aload 6, 2) := by decide +kernel
theorem dX2_say_93 : decode cX2_say 93 = .ok (.iload_n 2, 1) := by decide +kernel
theorem dX2_say_94 : decode cX2_say 94 = .ok (.iload_n 3, 1) := by decide +kernel
theorem dX2_say_95 : decode cX2_say 95 = .ok (.iload 4, 2) := by decide +kernel
theorem dX2_say_97 : decode cX2_say 97 = .ok (.iload 5, 2) := by decide +kernel
theorem dX2_say_99 : decode cX2_say 99 = .ok (.invokevirtual 90, 3) := by decide +kernel
theorem dX2_say_102 : decode cX2_say 102 = .ok (.aload 6, 2) := by decide +kernel
theorem dX2_say_104 : decode cX2_say 104 = .ok (.getfield 85, 3) := by decide +kernel
theorem dX2_say_107 : decode cX2_say 107 = .ok (.ireturn, 1) := by decide +kernel
theorem dX2_turn_0 : decode cX2_turn 0 = .ok (.aload_n 0, 1) := by decide +kernel
theorem dX2_turn_1 : decode cX2_turn 1 = .ok (.iload_n 1, 1) := by decide +kernel
theorem dX2_turn_2 : decode cX2_turn 2 = .ok (.invokevirtual 59, 3) := by decide +kernel
theorem dX2_turn_5 : decode cX2_turn 5 = .ok (.aload_n 0, 1) := by decide +kernel
theorem dX2_turn_6 : decode cX2_turn 6 = .ok (.getfield 10, 3) := by decide +kernel
theorem dX2_turn_9 : decode cX2_turn 9 = .ok (.getfield 72, 3) := by decide +kernel
theorem dX2_turn_12 : decode cX2_turn 12 = .ok (.iload_n 1, 1) := by decide +kernel
theorem dX2_turn_13 : decode cX2_turn 13 = .ok (.aaload, 1) := by decide +kernel
theorem dX2_turn_14 : decode cX2_turn 14 = .ok (.invokevirtual 94, 3) := by decide +kernel
theorem dX2_turn_17 : decode cX2_turn 17 = .ok (.ifCond .ne 13, 3) := by decide +kernel
theorem dX2_turn_20 : decode cX2_turn 20 = .ok (.new 50, 3) := by decide +kernel
theorem dX2_turn_23 : decode cX2_turn 23 = .ok (.dup, 1) := by decide +kernel
theorem dX2_turn_24 : decode cX2_turn 24 = .ok (.ldc 98, 2) := by decide +kernel
theorem dX2_turn_26 : decode cX2_turn 26 = .ok (.invokespecial 54, 3) := by decide +kernel
theorem dX2_turn_29 : decode cX2_turn 29 = .ok (.athrow, 1) := by decide +kernel
theorem dX2_turn_30 : decode cX2_turn 30 = .ok (.aload_n 0, 1) := by decide +kernel
theorem dX2_turn_31 : decode cX2_turn 31 = .ok (.getfield 10, 3) := by decide +kernel
theorem dX2_turn_34 : decode cX2_turn 34 = .ok (.iload_n 1, 1) := by decide +kernel
theorem dX2_turn_35 : decode cX2_turn 35 = .ok (.invokevirtual 100, 3) := by decide +kernel
theorem dX2_turn_38 : decode cX2_turn 38 = .ok (.ireturn, 1) := by decide +kernel
theorem dX2_drop_0 : decode cX2_drop 0 = .ok (.aload_n 0, 1) := by decide +kernel
theorem dX2_drop_1 : decode cX2_drop 1 = .ok (.iload_n 1, 1) := by decide +kernel
theorem dX2_drop_2 : decode cX2_drop 2 = .ok (.invokevirtual 59, 3) := by decide +kernel
theorem dX2_drop_5 : decode cX2_drop 5 = .ok (.aload_n 0, 1) := by decide +kernel
theorem dX2_drop_6 : decode cX2_drop 6 = .ok (.getfield 10, 3) := by decide +kernel
theorem dX2_drop_9 : decode cX2_drop 9 = .ok (.getfield 72, 3) := by decide +kernel
theorem dX2_drop_12 : decode cX2_drop 12 = .ok (.iload_n 1, 1) := by decide +kernel
theorem dX2_drop_13 : decode cX2_drop 13 = .ok (.aaload, 1) := by decide +kernel
theorem dX2_drop_14 : decode cX2_drop 14 = .ok (.astore_n 2, 1) := by decide +kernel
theorem dX2_drop_15 : decode cX2_drop 15 = .ok (.aload_n 2, 1) := by decide +kernel
theorem dX2_drop_16 : decode cX2_drop 16 = .ok (.getfield 82, 3) := by decide +kernel
theorem dX2_drop_19 : decode cX2_drop 19 = .ok (.istore_n 3, 1) := by decide +kernel
theorem dX2_drop_20 : decode cX2_drop 20 = .ok (.aload_n 2, 1) := by decide +kernel
theorem dX2_drop_21 : decode cX2_drop 21 = .ok (.invokevirtual 104, 3) := by decide +kernel
theorem dX2_drop_24 : decode cX2_drop 24 = .ok (.iload_n 3, 1) := by decide +kernel
theorem dX2_drop_25 : decode cX2_drop 25 = .ok (.ireturn, 1) := by decide +kernel
theorem dX2_pass_0 : decode cX2_pass 0 = .ok (.iload_n 1, 1) := by decide +kernel
theorem dX2_pass_1 : decode cX2_pass 1 = .ok (.invokestatic 107, 3) := by decide +kernel
theorem dX2_pass_4 : decode cX2_pass 4 = .ok (.aload_n 0, 1) := by decide +kernel
theorem dX2_pass_5 : decode cX2_pass 5 = .ok (.getfield 10, 3) := by decide +kernel
theorem dX2_pass_8 : decode cX2_pass 8 = .ok (.iload_n 1, 1) := by decide +kernel
theorem dX2_pass_9 : decode cX2_pass 9 = .ok (.invokevirtual 110, 3) := by decide +kernel
theorem dX2_pass_12 : decode cX2_pass 12 = .ok (.ireturn, 1) := by decide +kernel
theorem dX2_drawer_0 : decode cX2_drawer 0 = .ok (.aload_n 0, 1) := by decide +kernel
theorem dX2_drawer_1 : decode cX2_drawer 1 = .ok (.iload_n 1, 1) := by decide +kernel
theorem dX2_drawer_2 : decode cX2_drawer 2 = .ok (.invokevirtual 34, 3) := by decide +kernel
theorem dX2_drawer_5 : decode cX2_drawer 5 = .ok (.iload_n 2, 1) := by decide +kernel
theorem dX2_drawer_6 : decode cX2_drawer 6 = .ok (.iconst 0, 1) := by decide +kernel
theorem dX2_drawer_7 : decode cX2_drawer 7 = .ok (.iconst 3, 1) := by decide +kernel
theorem dX2_drawer_8 : decode cX2_drawer 8 = .ok (.invokestatic 62, 3) := by decide +kernel
theorem dX2_drawer_11 : decode cX2_drawer 11 = .ok (.aload_n 0, 1) := by decide +kernel
theorem dX2_drawer_12 : decode cX2_drawer 12 = .ok (.getfield 10, 3) := by decide +kernel
theorem dX2_drawer_15 : decode cX2_drawer 15 = .ok (.iload_n 1, 1) := by decide +kernel
theorem dX2_drawer_16 : decode cX2_drawer 16 = .ok (.iload_n 2, 1) := by decide +kernel
theorem dX2_drawer_17 : decode cX2_drawer 17 = .ok (.invokevirtual 113, 3) := by decide +kernel
theorem dX2_drawer_20 : decode cX2_drawer 20 = .ok (.ireturn, 1) := by decide +kernel
theorem dX2_told_0 : decode cX2_told 0 = .ok (.aload_n 0, 1) := by decide +kernel
theorem dX2_told_1 : decode cX2_told 1 = .ok (.iload_n 1, 1) := by decide +kernel
theorem dX2_told_2 : decode cX2_told 2 = .ok (.invokevirtual 59, 3) := by decide +kernel
theorem dX2_told_5 : decode cX2_told 5 = .ok (.iload_n 2, 1) := by decide +kernel
theorem dX2_told_6 : decode cX2_told 6 = .ok (.iconst 0, 1) := by decide +kernel
theorem dX2_told_7 : decode cX2_told 7 = .ok (.bipush 6, 2) := by decide +kernel
theorem dX2_told_9 : decode cX2_told 9 = .ok (.invokestatic 62, 3) := by decide +kernel
theorem dX2_told_12 : decode cX2_told 12 = .ok (.aload_n 0, 1) := by decide +kernel
theorem dX2_told_13 : decode cX2_told 13 = .ok (.getfield 10, 3) := by decide +kernel
theorem dX2_told_16 : decode cX2_told 16 = .ok (.iload_n 1, 1) := by decide +kernel
theorem dX2_told_17 : decode cX2_told 17 = .ok (.iload_n 2, 1) := by decide +kernel
theorem dX2_told_18 : decode cX2_told 18 = .ok (.invokevirtual 117, 3) := by decide +kernel
theorem dX2_told_21 : decode cX2_told 21 = .ok (.ireturn, 1) := by decide +kernel
theorem dX2_slip_0 : decode cX2_slip 0 = .ok (.aload_n 0, 1) := by decide +kernel
theorem dX2_slip_1 : decode cX2_slip 1 = .ok (.iload_n 1, 1) := by decide +kernel
theorem dX2_slip_2 : decode cX2_slip 2 = .ok (.invokevirtual 59, 3) := by decide +kernel
theorem dX2_slip_5 : decode cX2_slip 5 = .ok (.aload_n 0, 1) := by decide +kernel
theorem dX2_slip_6 : decode cX2_slip 6 = .ok (.iload_n 2, 1) := by decide +kernel
theorem dX2_slip_7 : decode cX2_slip 7 = .ok (.invokevirtual 34, 3) := by decide +kernel
theorem dX2_slip_10 : decode cX2_slip 10 = .ok (.iload_n 3, 1) := by decide +kernel
theorem dX2_slip_11 : decode cX2_slip 11 = .ok (.iconst 0, 1) := by decide +kernel
theorem dX2_slip_12 : decode cX2_slip 12 = .ok (.iconst 2, 1) := by decide +kernel
theorem dX2_slip_13 : decode cX2_slip 13 = .ok (.invokestatic 62, 3) := by decide +kernel
theorem dX2_slip_16 : decode cX2_slip 16 = .ok (.aload_n 0, 1) := by decide +kernel
theorem dX2_slip_17 : decode cX2_slip 17 = .ok (.getfield 10, 3) := by decide +kernel
theorem dX2_slip_20 : decode cX2_slip 20 = .ok (.getfield 72, 3) := by decide +kernel
theorem dX2_slip_23 : decode cX2_slip 23 = .ok (.iload_n 1, 1) := by decide +kernel
theorem dX2_slip_24 : decode cX2_slip 24 = .ok (.aaload, 1) := by decide +kernel
theorem dX2_slip_25 : decode cX2_slip 25 = .ok (.iload_n 2, 1) := by decide +kernel
theorem dX2_slip_26 : decode cX2_slip 26 = .ok (.iload_n 3, 1) := by decide +kernel
theorem dX2_slip_27 : decode cX2_slip 27 = .ok (.invokevirtual 120, 3) := by decide +kernel
theorem dX2_slip_30 : decode cX2_slip 30 = .ok (.ireturn, 1) := by decide +kernel
theorem dX2_step_0 : decode cX2_step 0 = .ok (.aload_n 0, 1) := by decide +kernel
theorem dX2_step_1 : decode cX2_step 1 = .ok (.iload_n 1, 1) := by decide +kernel
theorem dX2_step_2 : decode cX2_step 2 = .ok (.invokevirtual 59, 3) := by decide +kernel
theorem dX2_step_5 : decode cX2_step 5 = .ok (.aload_n 0, 1) := by decide +kernel
theorem dX2_step_6 : decode cX2_step 6 = .ok (.getfield 10, 3) := by decide +kernel
theorem dX2_step_9 : decode cX2_step 9 = .ok (.getfield 72, 3) := by decide +kernel
theorem dX2_step_12 : decode cX2_step 12 = .ok (.iload_n 1, 1) := by decide +kernel
theorem dX2_step_13 : decode cX2_step 13 = .ok (.aaload, 1) := by decide +kernel
theorem dX2_step_14 : decode cX2_step 14 = .ok (.astore 4, 2) := by decide +kernel
theorem dX2_step_16 : decode cX2_step 16 = .ok (.iload_n 2, 1) := by decide +kernel
theorem dX2_step_17 : decode cX2_step 17 = .ok (.ifCond .lt 12, 3) := by decide +kernel
theorem dX2_step_20 : decode cX2_step 20 = .ok (.iload_n 2, 1) := by decide +kernel
theorem dX2_step_21 : decode cX2_step 21 = .ok (.aload 4, 2) := by decide +kernel
theorem dX2_step_23 : decode cX2_step 23 = .ok (.getfield 85, 3) := by decide +kernel
theorem dX2_step_26 : decode cX2_step 26 = .ok (.if_icmp .lt 13, 3) := by decide +kernel
theorem dX2_step_29 : decode cX2_step 29 = .ok (.new 123, 3) := by decide +kernel
theorem dX2_step_32 : decode cX2_step 32 = .ok (.dup, 1) := by decide +kernel
theorem dX2_step_33 : decode cX2_step 33 = .ok (.ldc 125, 2) := by decide +kernel
theorem dX2_step_35 : decode cX2_step 35 = .ok (.invokespecial 127, 3) := by decide +kernel
theorem dX2_step_38 : decode cX2_step 38 = .ok (.athrow, 1) := by decide +kernel
theorem dX2_step_39 : decode cX2_step 39 = .ok (.iload_n 3, 1) := by decide +kernel
theorem dX2_step_40 : decode cX2_step 40 = .ok (.iconst 0, 1) := by decide +kernel
theorem dX2_step_41 : decode cX2_step 41 = .ok (.iconst 3, 1) := by decide +kernel
theorem dX2_step_42 : decode cX2_step 42 = .ok (.invokestatic 62, 3) := by decide +kernel
theorem dX2_step_45 : decode cX2_step 45 = .ok (.aload 4, 2) := by decide +kernel
theorem dX2_step_47 : decode cX2_step 47 = .ok (.iload_n 2, 1) := by decide +kernel
theorem dX2_step_48 : decode cX2_step 48 = .ok (.iload_n 3, 1) := by decide +kernel
theorem dX2_step_49 : decode cX2_step 49 = .ok (.invokevirtual 128, 3) := by decide +kernel
theorem dX2_step_52 : decode cX2_step 52 = .ok (.ireturn, 1) := by decide +kernel
theorem dX2_closing_0 : decode cX2_closing 0 = .ok (.iload_n 1, 1) := by decide +kernel
theorem dX2_closing_1 : decode cX2_closing 1 = .ok (.ifCond .lt 14, 3) := by decide +kernel
theorem dX2_closing_4 : decode cX2_closing 4 = .ok (.iload_n 1, 1) := by decide +kernel
theorem dX2_closing_5 : decode cX2_closing 5 = .ok (.aload_n 0, 1) := by decide +kernel
theorem dX2_closing_6 : decode cX2_closing 6 = .ok (.getfield 10, 3) := by decide +kernel
theorem dX2_closing_9 : decode cX2_closing 9 = .ok (.invokevirtual 131, 3) := by decide +kernel
theorem dX2_closing_12 : decode cX2_closing 12 = .ok (.if_icmp .lt 13, 3) := by decide +kernel
theorem dX2_closing_15 : decode cX2_closing 15 = .ok (.new 123, 3) := by decide +kernel
theorem dX2_closing_18 : decode cX2_closing 18 = .ok (.dup, 1) := by decide +kernel
theorem dX2_closing_19 : decode cX2_closing 19 = .ok (.ldc 134, 2) := by decide +kernel
theorem dX2_closing_21 : decode cX2_closing 21 = .ok (.invokespecial 127, 3) := by decide +kernel
theorem dX2_closing_24 : decode cX2_closing 24 = .ok (.athrow, 1) := by decide +kernel
theorem dX2_closing_25 : decode cX2_closing 25 = .ok (.iload_n 2, 1) := by decide +kernel
theorem dX2_closing_26 : decode cX2_closing 26 = .ok (.iconst 0, 1) := by decide +kernel
theorem dX2_closing_27 : decode cX2_closing 27 = .ok (.iconst 2, 1) := by decide +kernel
theorem dX2_closing_28 : decode cX2_closing 28 = .ok (.invokestatic 62, 3) := by decide +kernel
theorem dX2_closing_31 : decode cX2_closing 31 = .ok (.aload_n 0, 1) := by decide +kernel
theorem dX2_closing_32 : decode cX2_closing 32 = .ok (.getfield 10, 3) := by decide +kernel
theorem dX2_closing_35 : decode cX2_closing 35 = .ok (.iload_n 1, 1) := by decide +kernel
theorem dX2_closing_36 : decode cX2_closing 36 = .ok (.iload_n 2, 1) := by decide +kernel
theorem dX2_closing_37 : decode cX2_closing 37 = .ok (.invokevirtual 136, 3) := by decide +kernel
theorem dX2_closing_40 : decode cX2_closing 40 = .ok (.ireturn, 1) := by decide +kernel
theorem dX2_clash_0 : decode cX2_clash 0 = .ok (.aload_n 0, 1) := by decide +kernel
theorem dX2_clash_1 : decode cX2_clash 1 = .ok (.iload_n 1, 1) := by decide +kernel
theorem dX2_clash_2 : decode cX2_clash 2 = .ok (.invokevirtual 59, 3) := by decide +kernel
theorem dX2_clash_5 : decode cX2_clash 5 = .ok (.aload_n 0, 1) := by decide +kernel
theorem dX2_clash_6 : decode cX2_clash 6 = .ok (.iload_n 2, 1) := by decide +kernel
theorem dX2_clash_7 : decode cX2_clash 7 = .ok (.invokevirtual 59, 3) := by decide +kernel
theorem dX2_clash_10 : decode cX2_clash 10 = .ok (.aload_n 0, 1) := by decide +kernel
theorem dX2_clash_11 : decode cX2_clash 11 = .ok (.getfield 10, 3) := by decide +kernel
theorem dX2_clash_14 : decode cX2_clash 14 = .ok (.iload_n 1, 1) := by decide +kernel
theorem dX2_clash_15 : decode cX2_clash 15 = .ok (.iload_n 2, 1) := by decide +kernel
theorem dX2_clash_16 : decode cX2_clash 16 = .ok (.invokevirtual 139, 3) := by decide +kernel
theorem dX2_clash_19 : decode cX2_clash 19 = .ok (.ireturn, 1) := by decide +kernel
theorem dX2_count_0 : decode cX2_count 0 = .ok (.iload_n 1, 1) := by decide +kernel
theorem dX2_count_1 : decode cX2_count 1 = .ok (.iconst 0, 1) := by decide +kernel
theorem dX2_count_2 : decode cX2_count 2 = .ok (.bipush 6, 2) := by decide +kernel
theorem dX2_count_4 : decode cX2_count 4 = .ok (.invokestatic 62, 3) := by decide +kernel
theorem dX2_count_7 : decode cX2_count 7 = .ok (.aload_n 0, 1) := by decide +kernel
theorem dX2_count_8 : decode cX2_count 8 = .ok (.getfield 10, 3) := by decide +kernel
theorem dX2_count_11 : decode cX2_count 11 = .ok (.iload_n 1, 1) := by decide +kernel
theorem dX2_count_12 : decode cX2_count 12 = .ok (.invokevirtual 143, 3) := by decide +kernel
theorem dX2_count_15 : decode cX2_count 15 = .ok (.ireturn, 1) := by decide +kernel
theorem dX2_alone_0 : decode cX2_alone 0 = .ok (.aload_n 0, 1) := by decide +kernel
theorem dX2_alone_1 : decode cX2_alone 1 = .ok (.iload_n 1, 1) := by decide +kernel
theorem dX2_alone_2 : decode cX2_alone 2 = .ok (.invokevirtual 59, 3) := by decide +kernel
theorem dX2_alone_5 : decode cX2_alone 5 = .ok (.aload_n 0, 1) := by decide +kernel
theorem dX2_alone_6 : decode cX2_alone 6 = .ok (.iload_n 2, 1) := by decide +kernel
theorem dX2_alone_7 : decode cX2_alone 7 = .ok (.invokevirtual 34, 3) := by decide +kernel
theorem dX2_alone_10 : decode cX2_alone 10 = .ok (.aload_n 0, 1) := by decide +kernel
theorem dX2_alone_11 : decode cX2_alone 11 = .ok (.getfield 16, 3) := by decide +kernel
theorem dX2_alone_14 : decode cX2_alone 14 = .ok (.aload_n 0, 1) := by decide +kernel
theorem dX2_alone_15 : decode cX2_alone 15 = .ok (.getfield 10, 3) := by decide +kernel
theorem dX2_alone_18 : decode cX2_alone 18 = .ok (.invokevirtual 146, 3) := by decide +kernel
theorem dX2_alone_21 : decode cX2_alone 21 = .ok (.aload_n 0, 1) := by decide +kernel
theorem dX2_alone_22 : decode cX2_alone 22 = .ok (.getfield 16, 3) := by decide +kernel
theorem dX2_alone_25 : decode cX2_alone 25 = .ok (.iload_n 1, 1) := by decide +kernel
theorem dX2_alone_26 : decode cX2_alone 26 = .ok (.invokevirtual 150, 3) := by decide +kernel
theorem dX2_alone_29 : decode cX2_alone 29 = .ok (.aload_n 0, 1) := by decide +kernel
theorem dX2_alone_30 : decode cX2_alone 30 = .ok (.getfield 16, 3) := by decide +kernel
theorem dX2_alone_33 : decode cX2_alone 33 = .ok (.getfield 39, 3) := by decide +kernel
theorem dX2_alone_36 : decode cX2_alone 36 = .ok (.iload_n 2, 1) := by decide +kernel
theorem dX2_alone_37 : decode cX2_alone 37 = .ok (.iaload, 1) := by decide +kernel
theorem dX2_alone_38 : decode cX2_alone 38 = .ok (.ireturn, 1) := by decide +kernel
theorem dX2_until_0 : decode cX2_until 0 = .ok (.aload_n 0, 1) := by decide +kernel
theorem dX2_until_1 : decode cX2_until 1 = .ok (.getfield 16, 3) := by decide +kernel
theorem dX2_until_4 : decode cX2_until 4 = .ok (.aload_n 0, 1) := by decide +kernel
theorem dX2_until_5 : decode cX2_until 5 = .ok (.getfield 10, 3) := by decide +kernel
theorem dX2_until_8 : decode cX2_until 8 = .ok (.invokevirtual 146, 3) := by decide +kernel
theorem dX2_until_11 : decode cX2_until 11 = .ok (.iconst 0, 1) := by decide +kernel
theorem dX2_until_12 : decode cX2_until 12 = .ok (.istore_n 1, 1) := by decide +kernel
theorem dX2_until_13 : decode cX2_until 13 = .ok (.iload_n 1, 1) := by decide +kernel
theorem dX2_until_14 : decode cX2_until 14 = .ok (.sipush 200, 3) := by decide +kernel
theorem dX2_until_17 : decode cX2_until 17 = .ok (.if_icmp .gt 29, 3) := by decide +kernel
theorem dX2_until_20 : decode cX2_until 20 = .ok (.aload_n 0, 1) := by decide +kernel
theorem dX2_until_21 : decode cX2_until 21 = .ok (.getfield 16, 3) := by decide +kernel
theorem dX2_until_24 : decode cX2_until 24 = .ok (.invokevirtual 153, 3) := by decide +kernel
theorem dX2_until_27 : decode cX2_until 27 = .ok (.ifCond .ne 5, 3) := by decide +kernel
theorem dX2_until_30 : decode cX2_until 30 = .ok (.iload_n 1, 1) := by decide +kernel
theorem dX2_until_31 : decode cX2_until 31 = .ok (.ireturn, 1) := by decide +kernel
theorem dX2_until_32 : decode cX2_until 32 = .ok (.aload_n 0, 1) := by decide +kernel
theorem dX2_until_33 : decode cX2_until 33 = .ok (.getfield 16, 3) := by decide +kernel
theorem dX2_until_36 : decode cX2_until 36 = .ok (.invokevirtual 156, 3) := by decide +kernel
theorem dX2_until_39 : decode cX2_until 39 = .ok (.pop, 1) := by decide +kernel
theorem dX2_until_40 : decode cX2_until 40 = .ok (.iinc 1 1, 3) := by decide +kernel
theorem dX2_until_43 : decode cX2_until 43 = .ok (.goto (-30), 3) := by decide +kernel
theorem dX2_until_46 : decode cX2_until 46 = .ok (.iconst (-1), 1) := by decide +kernel
theorem dX2_until_47 : decode cX2_until 47 = .ok (.ireturn, 1) := by decide +kernel
theorem dX2_foresee_0 : decode cX2_foresee 0 = .ok (.iload_n 1, 1) := by decide +kernel
theorem dX2_foresee_1 : decode cX2_foresee 1 = .ok (.invokestatic 107, 3) := by decide +kernel
theorem dX2_foresee_4 : decode cX2_foresee 4 = .ok (.iload_n 2, 1) := by decide +kernel
theorem dX2_foresee_5 : decode cX2_foresee 5 = .ok (.iconst 2, 1) := by decide +kernel
theorem dX2_foresee_6 : decode cX2_foresee 6 = .ok (.bipush 6, 2) := by decide +kernel
theorem dX2_foresee_8 : decode cX2_foresee 8 = .ok (.invokestatic 62, 3) := by decide +kernel
theorem dX2_foresee_11 : decode cX2_foresee 11 = .ok (.aload_n 0, 1) := by decide +kernel
theorem dX2_foresee_12 : decode cX2_foresee 12 = .ok (.getfield 16, 3) := by decide +kernel
theorem dX2_foresee_15 : decode cX2_foresee 15 = .ok (.aload_n 0, 1) := by decide +kernel
theorem dX2_foresee_16 : decode cX2_foresee 16 = .ok (.getfield 10, 3) := by decide +kernel
theorem dX2_foresee_19 : decode cX2_foresee 19 = .ok (.invokevirtual 146, 3) := by decide +kernel
theorem dX2_foresee_22 : decode cX2_foresee 22 = .ok (.aload_n 0, 1) := by decide +kernel
theorem dX2_foresee_23 : decode cX2_foresee 23 = .ok (.getfield 16, 3) := by decide +kernel
theorem dX2_foresee_26 : decode cX2_foresee 26 = .ok (.iload_n 1, 1) := by decide +kernel
theorem dX2_foresee_27 : decode cX2_foresee 27 = .ok (.invokevirtual 110, 3) := by decide +kernel
theorem dX2_foresee_30 : decode cX2_foresee 30 = .ok (.pop, 1) := by decide +kernel
theorem dX2_foresee_31 : decode cX2_foresee 31 = .ok (.aload_n 0, 1) := by decide +kernel
theorem dX2_foresee_32 : decode cX2_foresee 32 = .ok (.getfield 16, 3) := by decide +kernel
theorem dX2_foresee_35 : decode cX2_foresee 35 = .ok (.iload_n 2, 1) := by decide +kernel
theorem dX2_foresee_36 : decode cX2_foresee 36 = .ok (.invokevirtual 143, 3) := by decide +kernel
theorem dX2_foresee_39 : decode cX2_foresee 39 = .ok (.ireturn, 1) := by decide +kernel
theorem dX2_mean_0 : decode cX2_mean 0 = .ok (.aload_n 0, 1) := by decide +kernel
theorem dX2_mean_1 : decode cX2_mean 1 = .ok (.getfield 10, 3) := by decide +kernel
theorem dX2_mean_4 : decode cX2_mean 4 = .ok (.getfield 47, 3) := by decide +kernel
theorem dX2_mean_7 : decode cX2_mean 7 = .ok (.iconst 1, 1) := by decide +kernel
theorem dX2_mean_8 : decode cX2_mean 8 = .ok (.if_icmp .ge 5, 3) := by decide +kernel
theorem dX2_mean_11 : decode cX2_mean 11 = .ok (.dconst 0, 1) := by decide +kernel
theorem dX2_mean_12 : decode cX2_mean 12 = .ok (.dreturn, 1) := by decide +kernel
theorem dX2_mean_13 : decode cX2_mean 13 = .ok (.aload_n 0, 1) := by decide +kernel
theorem dX2_mean_14 : decode cX2_mean 14 = .ok (.getfield 10, 3) := by decide +kernel
theorem dX2_mean_17 : decode cX2_mean 17 = .ok (.invokevirtual 162, 3) := by decide +kernel
theorem dX2_mean_20 : decode cX2_mean 20 = .ok (.i2d, 1) := by decide +kernel
theorem dX2_mean_21 : decode cX2_mean 21 = .ok (.aload_n 0, 1) := by decide +kernel
theorem dX2_mean_22 : decode cX2_mean 22 = .ok (.getfield 10, 3) := by decide +kernel
theorem dX2_mean_25 : decode cX2_mean 25 = .ok (.getfield 47, 3) := by decide +kernel
theorem dX2_mean_28 : decode cX2_mean 28 = .ok (.i2d, 1) := by decide +kernel
theorem dX2_mean_29 : decode cX2_mean 29 = .ok (.ddiv, 1) := by decide +kernel
theorem dX2_mean_30 : decode cX2_mean 30 = .ok (.dreturn, 1) := by decide +kernel
theorem dX2_digest_0 : decode cX2_digest 0 = .ok (.ldc2_w 165, 3) := by decide +kernel
theorem dX2_digest_3 : decode cX2_digest 3 = .ok (.lstore_n 1, 1) := by decide +kernel
theorem dX2_digest_4 : decode cX2_digest 4 = .ok (.iconst 0, 1) := by decide +kernel
theorem dX2_digest_5 : decode cX2_digest 5 = .ok (.istore_n 3, 1) := by decide +kernel
theorem dX2_digest_6 : decode cX2_digest 6 = .ok (.iload_n 3, 1) := by decide +kernel
theorem dX2_digest_7 : decode cX2_digest 7 = .ok (.bipush 7, 2) := by decide +kernel
theorem dX2_digest_9 : decode cX2_digest 9 = .ok (.if_icmp .ge 25, 3) := by decide +kernel
theorem dX2_digest_12 : decode cX2_digest 12 = .ok (.lload_n 1, 1) := by decide +kernel
theorem dX2_digest_13 : decode cX2_digest 13 = .ok (.ldc2_w 167, 3) := by decide +kernel
theorem dX2_digest_16 : decode cX2_digest 16 = .ok (.lmul, 1) := by decide +kernel
theorem dX2_digest_17 : decode cX2_digest 17 = .ok (.aload_n 0, 1) := by decide +kernel
theorem dX2_digest_18 : decode cX2_digest 18 = .ok (.getfield 10, 3) := by decide +kernel
theorem dX2_digest_21 : decode cX2_digest 21 = .ok (.iload_n 3, 1) := by decide +kernel
theorem dX2_digest_22 : decode cX2_digest 22 = .ok (.invokevirtual 143, 3) := by decide +kernel
theorem dX2_digest_25 : decode cX2_digest 25 = .ok (.i2l, 1) := by decide +kernel
theorem dX2_digest_26 : decode cX2_digest 26 = .ok (.ladd, 1) := by decide +kernel
theorem dX2_digest_27 : decode cX2_digest 27 = .ok (.lstore_n 1, 1) := by decide +kernel
theorem dX2_digest_28 : decode cX2_digest 28 = .ok (.iinc 3 1, 3) := by decide +kernel
theorem dX2_digest_31 : decode cX2_digest 31 = .ok (.goto (-25), 3) := by decide +kernel
theorem dX2_digest_34 : decode cX2_digest 34 = .ok (.aload_n 0, 1) := by decide +kernel
theorem dX2_digest_35 : decode cX2_digest 35 = .ok (.lload_n 1, 1) := by decide +kernel
theorem dX2_digest_36 : decode cX2_digest 36 = .ok (.invokevirtual 169, 3) := by decide +kernel
theorem dX2_digest_39 : decode cX2_digest 39 = .ok (.lstore_n 1, 1) := by decide +kernel
theorem dX2_digest_40 : decode cX2_digest 40 = .ok (.aload_n 0, 1) := by decide +kernel
theorem dX2_digest_41 : decode cX2_digest 41 = .ok (.lload_n 1, 1) := by decide +kernel
theorem dX2_digest_42 : decode cX2_digest 42 = .ok (.invokevirtual 173, 3) := by decide +kernel
theorem dX2_digest_45 : decode cX2_digest 45 = .ok (.lstore_n 1, 1) := by decide +kernel
theorem dX2_digest_46 : decode cX2_digest 46 = .ok (.aload_n 0, 1) := by decide +kernel
theorem dX2_digest_47 : decode cX2_digest 47 = .ok (.lload_n 1, 1) := by decide +kernel
theorem dX2_digest_48 : decode cX2_digest 48 = .ok (.invokevirtual 176, 3) := by decide +kernel
theorem dX2_digest_51 : decode cX2_digest 51 = .ok (.lreturn, 1) := by decide +kernel
theorem dX2_digestDrawers_0 : decode cX2_digestDrawers 0 = .ok (.lload_n 1, 1) := by decide +kernel
theorem dX2_digestDrawers_1 : decode cX2_digestDrawers 1 = .ok (.lstore_n 3, 1) := by decide +kernel
theorem dX2_digestDrawers_2 : decode cX2_digestDrawers 2 = .ok (.iconst 0, 1) := by decide +kernel
theorem dX2_digestDrawers_3 : decode cX2_digestDrawers 3 = .ok (.istore 5, 2) := by decide +kernel
theorem dX2_digestDrawers_5 : decode cX2_digestDrawers 5 = .ok (.iload 5, 2) := by decide +kernel
theorem dX2_digestDrawers_7 : decode cX2_digestDrawers 7 = .ok (.aload_n 0, 1) := by decide +kernel
theorem dX2_digestDrawers_8 : decode cX2_digestDrawers 8 = .ok (.getfield 10, 3) := by decide +kernel
theorem dX2_digestDrawers_11 : decode cX2_digestDrawers 11 = .ok (.getfield 26, 3) := by decide +kernel
theorem dX2_digestDrawers_14 : decode cX2_digestDrawers 14 = .ok (.if_icmp .ge 43, 3) := by decide +kernel
theorem dX2_digestDrawers_17 : decode cX2_digestDrawers 17 = .ok (.iconst 0, 1) := by decide +kernel
theorem dX2_digestDrawers_18 : decode cX2_digestDrawers 18 = .ok (.istore 6, 2) := by decide +kernel
theorem dX2_digestDrawers_20 : decode cX2_digestDrawers 20 = .ok (.iload 6, 2) := by decide +kernel
theorem dX2_digestDrawers_22 : decode cX2_digestDrawers 22 = .ok (.iconst 4, 1) := by decide +kernel
theorem dX2_digestDrawers_23 : decode cX2_digestDrawers 23 = .ok (.if_icmp .ge 28, 3) := by decide +kernel
theorem dX2_digestDrawers_26 : decode cX2_digestDrawers 26 = .ok (.lload_n 3, 1) := by decide +kernel
theorem dX2_digestDrawers_27 : decode cX2_digestDrawers 27 = .ok (.ldc2_w 167, 3) := by decide +kernel
theorem dX2_digestDrawers_30 : decode cX2_digestDrawers 30 = .ok (.lmul, 1) := by decide +kernel
theorem dX2_digestDrawers_31 : decode cX2_digestDrawers 31 = .ok (.aload_n 0, 1) := by decide +kernel
theorem dX2_digestDrawers_32 : decode cX2_digestDrawers 32 = .ok (.getfield 10, 3) := by decide +kernel
theorem dX2_digestDrawers_35 : decode cX2_digestDrawers 35 = .ok (.iload 5, 2) := by decide +kernel
theorem dX2_digestDrawers_37 : decode cX2_digestDrawers 37 = .ok (.iload 6, 2) := by decide +kernel
theorem dX2_digestDrawers_39 : decode cX2_digestDrawers 39 = .ok (.invokevirtual 113, 3) := by decide +kernel
theorem dX2_digestDrawers_42 : decode cX2_digestDrawers 42 = .ok (.i2l, 1) := by decide +kernel
theorem dX2_digestDrawers_43 : decode cX2_digestDrawers 43 = .ok (.ladd, 1) := by decide +kernel
theorem dX2_digestDrawers_44 : decode cX2_digestDrawers 44 = .ok (.lstore_n 3, 1) := by decide +kernel
theorem dX2_digestDrawers_45 : decode cX2_digestDrawers 45 = .ok (.iinc 6 1, 3) := by decide +kernel
theorem dX2_digestDrawers_48 : decode cX2_digestDrawers 48 = .ok (.goto (-28), 3) := by decide +kernel
theorem dX2_digestDrawers_51 : decode cX2_digestDrawers 51 = .ok (.iinc 5 1, 3) := by decide +kernel
theorem dX2_digestDrawers_54 : decode cX2_digestDrawers 54 = .ok (.goto (-49), 3) := by decide +kernel
theorem dX2_digestDrawers_57 : decode cX2_digestDrawers 57 = .ok (.lload_n 3, 1) := by decide +kernel
theorem dX2_digestDrawers_58 : decode cX2_digestDrawers 58 = .ok (.lreturn, 1) := by decide +kernel
theorem dX2_digestClerks_0 : decode cX2_digestClerks 0 = .ok (.lload_n 1, 1) := by decide +kernel
theorem dX2_digestClerks_1 : decode cX2_digestClerks 1 = .ok (.lstore_n 3, 1) := by decide +kernel
theorem dX2_digestClerks_2 : decode cX2_digestClerks 2 = .ok (.iconst 0, 1) := by decide +kernel
theorem dX2_digestClerks_3 : decode cX2_digestClerks 3 = .ok (.istore 5, 2) := by decide +kernel
theorem dX2_digestClerks_5 : decode cX2_digestClerks 5 = .ok (.iload 5, 2) := by decide +kernel
theorem dX2_digestClerks_7 : decode cX2_digestClerks 7 = .ok (.aload_n 0, 1) := by decide +kernel
theorem dX2_digestClerks_8 : decode cX2_digestClerks 8 = .ok (.getfield 10, 3) := by decide +kernel
theorem dX2_digestClerks_11 : decode cX2_digestClerks 11 = .ok (.getfield 47, 3) := by decide +kernel
theorem dX2_digestClerks_14 : decode cX2_digestClerks 14 = .ok (.if_icmp .ge 105, 3) := by decide +kernel
theorem dX2_digestClerks_17 : decode cX2_digestClerks 17 = .ok (.iconst 0, 1) := by decide +kernel
theorem dX2_digestClerks_18 : decode cX2_digestClerks 18 = .ok (.istore 6, 2) := by decide +kernel
theorem dX2_digestClerks_20 : decode cX2_digestClerks 20 = .ok (.iload 6, 2) := by decide +kernel
theorem dX2_digestClerks_22 : decode cX2_digestClerks 22 = .ok (.bipush 7, 2) := by decide +kernel
theorem dX2_digestClerks_24 : decode cX2_digestClerks 24 = .ok (.if_icmp .ge 28, 3) := by decide +kernel
theorem dX2_digestClerks_27 : decode cX2_digestClerks 27 = .ok (.lload_n 3, 1) := by decide +kernel
theorem dX2_digestClerks_28 : decode cX2_digestClerks 28 = .ok (.ldc2_w 167, 3) := by decide +kernel
theorem dX2_digestClerks_31 : decode cX2_digestClerks 31 = .ok (.lmul, 1) := by decide +kernel
theorem dX2_digestClerks_32 : decode cX2_digestClerks 32 = .ok (.aload_n 0, 1) := by decide +kernel
theorem dX2_digestClerks_33 : decode cX2_digestClerks 33 = .ok (.getfield 10, 3) := by decide +kernel
theorem dX2_digestClerks_36 : decode cX2_digestClerks 36 = .ok (.iload 5, 2) := by decide +kernel
theorem dX2_digestClerks_38 : decode cX2_digestClerks 38 = .ok (.iload 6, 2) := by decide +kernel
theorem dX2_digestClerks_40 : decode cX2_digestClerks 40 = .ok (.invokevirtual 117, 3) := by decide +kernel
theorem dX2_digestClerks_43 : decode cX2_digestClerks 43 = .ok (.i2l, 1) := by decide +kernel
theorem dX2_digestClerks_44 : decode cX2_digestClerks 44 = .ok (.ladd, 1) := by decide +kernel
theorem dX2_digestClerks_45 : decode cX2_digestClerks 45 = .ok (.lstore_n 3, 1) := by decide +kernel
theorem dX2_digestClerks_46 : decode cX2_digestClerks 46 = .ok (.iinc 6 1, 3) := by decide +kernel
theorem dX2_digestClerks_49 : decode cX2_digestClerks 49 = .ok (.goto (-29), 3) := by decide +kernel
theorem dX2_digestClerks_52 : decode cX2_digestClerks 52 = .ok (.iconst 0, 1) := by decide +kernel
theorem dX2_digestClerks_53 : decode cX2_digestClerks 53 = .ok (.istore 6, 2) := by decide +kernel
theorem dX2_digestClerks_55 : decode cX2_digestClerks 55 = .ok (.iload 6, 2) := by decide +kernel
theorem dX2_digestClerks_57 : decode cX2_digestClerks 57 = .ok (.aload_n 0, 1) := by decide +kernel
theorem dX2_digestClerks_58 : decode cX2_digestClerks 58 = .ok (.getfield 10, 3) := by decide +kernel
theorem dX2_digestClerks_61 : decode cX2_digestClerks 61 = .ok (.getfield 26, 3) := by decide +kernel
theorem dX2_digestClerks_64 : decode cX2_digestClerks 64 = .ok (.if_icmp .ge 49, 3) := by decide +kernel
theorem dX2_digestClerks_67 : decode cX2_digestClerks 67 = .ok (.iconst 0, 1) := by decide +kernel
theorem dX2_digestClerks_68 : decode cX2_digestClerks 68 = .ok (.istore 7, 2) := by decide +kernel
theorem dX2_digestClerks_70 : decode cX2_digestClerks 70 = .ok (.iload 7, 2) := by decide +kernel
theorem dX2_digestClerks_72 : decode cX2_digestClerks 72 = .ok (.iconst 3, 1) := by decide +kernel
theorem dX2_digestClerks_73 : decode cX2_digestClerks 73 = .ok (.if_icmp .ge 34, 3) := by decide +kernel
theorem dX2_digestClerks_76 : decode cX2_digestClerks 76 = .ok (.lload_n 3, 1) := by decide +kernel
theorem dX2_digestClerks_77 : decode cX2_digestClerks 77 = .ok (.ldc2_w 167, 3) := by decide +kernel
theorem dX2_digestClerks_80 : decode cX2_digestClerks 80 = .ok (.lmul, 1) := by decide +kernel
theorem dX2_digestClerks_81 : decode cX2_digestClerks 81 = .ok (.aload_n 0, 1) := by decide +kernel
theorem dX2_digestClerks_82 : decode cX2_digestClerks 82 = .ok (.getfield 10, 3) := by decide +kernel
theorem dX2_digestClerks_85 : decode cX2_digestClerks 85 = .ok (.getfield 72, 3) := by decide +kernel
theorem dX2_digestClerks_88 : decode cX2_digestClerks 88 = .ok (.iload 5, 2) := by decide +kernel
theorem dX2_digestClerks_90 : decode cX2_digestClerks 90 = .ok (.aaload, 1) := by decide +kernel
theorem dX2_digestClerks_91 : decode cX2_digestClerks 91 = .ok (.iload 6, 2) := by decide +kernel
theorem dX2_digestClerks_93 : decode cX2_digestClerks 93 = .ok (.iload 7, 2) := by decide +kernel
theorem dX2_digestClerks_95 : decode cX2_digestClerks 95 = .ok (.invokevirtual 120, 3) := by decide +kernel
theorem dX2_digestClerks_98 : decode cX2_digestClerks 98 = .ok (.i2l, 1) := by decide +kernel
theorem dX2_digestClerks_99 : decode cX2_digestClerks 99 = .ok (.ladd, 1) := by decide +kernel
theorem dX2_digestClerks_100 : decode cX2_digestClerks 100 = .ok (.lstore_n 3, 1) := by decide +kernel
theorem dX2_digestClerks_101 : decode cX2_digestClerks 101 = .ok (.iinc 7 1, 3) := by decide +kernel
theorem dX2_digestClerks_104 : decode cX2_digestClerks 104 = .ok (.goto (-34), 3) := by decide +kernel
theorem dX2_digestClerks_107 : decode cX2_digestClerks 107 = .ok (.iinc 6 1, 3) := by decide +kernel
theorem dX2_digestClerks_110 : decode cX2_digestClerks 110 = .ok (.goto (-55), 3) := by decide +kernel
theorem dX2_digestClerks_113 : decode cX2_digestClerks 113 = .ok (.iinc 5 1, 3) := by decide +kernel
theorem dX2_digestClerks_116 : decode cX2_digestClerks 116 = .ok (.goto (-111), 3) := by decide +kernel
theorem dX2_digestClerks_119 : decode cX2_digestClerks 119 = .ok (.lload_n 3, 1) := by decide +kernel
theorem dX2_digestClerks_120 : decode cX2_digestClerks 120 = .ok (.lreturn, 1) := by decide +kernel
theorem dX2_digestClosings_0 : decode cX2_digestClosings 0 = .ok (.lload_n 1, 1) := by decide +kernel
theorem dX2_digestClosings_1 : decode cX2_digestClosings 1 = .ok (.lstore_n 3, 1) := by decide +kernel
theorem dX2_digestClosings_2 : decode cX2_digestClosings 2 = .ok (.aload_n 0, 1) := by decide +kernel
theorem dX2_digestClosings_3 : decode cX2_digestClosings 3 = .ok (.getfield 10, 3) := by decide +kernel
theorem dX2_digestClosings_6 : decode cX2_digestClosings 6 = .ok (.invokevirtual 131, 3) := by decide +kernel
theorem dX2_digestClosings_9 : decode cX2_digestClosings 9 = .ok (.istore 5, 2) := by decide +kernel
theorem dX2_digestClosings_11 : decode cX2_digestClosings 11 = .ok (.iconst 0, 1) := by decide +kernel
theorem dX2_digestClosings_12 : decode cX2_digestClosings 12 = .ok (.istore 6, 2) := by decide +kernel
theorem dX2_digestClosings_14 : decode cX2_digestClosings 14 = .ok (.iload 6, 2) := by decide +kernel
theorem dX2_digestClosings_16 : decode cX2_digestClosings 16 = .ok (.iload 5, 2) := by decide +kernel
theorem dX2_digestClosings_18 : decode cX2_digestClosings 18 = .ok (.if_icmp .ge 43, 3) := by decide +kernel
theorem dX2_digestClosings_21 : decode cX2_digestClosings 21 = .ok (.iconst 0, 1) := by decide +kernel
theorem dX2_digestClosings_22 : decode cX2_digestClosings 22 = .ok (.istore 7, 2) := by decide +kernel
theorem dX2_digestClosings_24 : decode cX2_digestClosings 24 = .ok (.iload 7, 2) := by decide +kernel
theorem dX2_digestClosings_26 : decode cX2_digestClosings 26 = .ok (.iconst 3, 1) := by decide +kernel
theorem dX2_digestClosings_27 : decode cX2_digestClosings 27 = .ok (.if_icmp .ge 28, 3) := by decide +kernel
theorem dX2_digestClosings_30 : decode cX2_digestClosings 30 = .ok (.lload_n 3, 1) := by decide +kernel
theorem dX2_digestClosings_31 : decode cX2_digestClosings 31 = .ok (.ldc2_w 167, 3) := by decide +kernel
theorem dX2_digestClosings_34 : decode cX2_digestClosings 34 = .ok (.lmul, 1) := by decide +kernel
theorem dX2_digestClosings_35 : decode cX2_digestClosings 35 = .ok (.aload_n 0, 1) := by decide +kernel
theorem dX2_digestClosings_36 : decode cX2_digestClosings 36 = .ok (.getfield 10, 3) := by decide +kernel
theorem dX2_digestClosings_39 : decode cX2_digestClosings 39 = .ok (.iload 6, 2) := by decide +kernel
theorem dX2_digestClosings_41 : decode cX2_digestClosings 41 = .ok (.iload 7, 2) := by decide +kernel
theorem dX2_digestClosings_43 : decode cX2_digestClosings 43 = .ok (.invokevirtual 136, 3) := by decide +kernel
theorem dX2_digestClosings_46 : decode cX2_digestClosings 46 = .ok (.i2l, 1) := by decide +kernel
theorem dX2_digestClosings_47 : decode cX2_digestClosings 47 = .ok (.ladd, 1) := by decide +kernel
theorem dX2_digestClosings_48 : decode cX2_digestClosings 48 = .ok (.lstore_n 3, 1) := by decide +kernel
theorem dX2_digestClosings_49 : decode cX2_digestClosings 49 = .ok (.iinc 7 1, 3) := by decide +kernel
theorem dX2_digestClosings_52 : decode cX2_digestClosings 52 = .ok (.goto (-28), 3) := by decide +kernel
theorem dX2_digestClosings_55 : decode cX2_digestClosings 55 = .ok (.iinc 6 1, 3) := by decide +kernel
theorem dX2_digestClosings_58 : decode cX2_digestClosings 58 = .ok (.goto (-44), 3) := by decide +kernel
theorem dX2_digestClosings_61 : decode cX2_digestClosings 61 = .ok (.lload_n 3, 1) := by decide +kernel
theorem dX2_digestClosings_62 : decode cX2_digestClosings 62 = .ok (.lreturn, 1) := by decide +kernel
theorem dX2_fitsKind_0 : decode cX2_fitsKind 0 = .ok (.iload_n 3, 1) := by decide +kernel
theorem dX2_fitsKind_1 : decode cX2_fitsKind 1 = .ok (.sipush (-999), 3) := by decide +kernel
theorem dX2_fitsKind_4 : decode cX2_fitsKind 4 = .ok (.if_icmp .lt 10, 3) := by decide +kernel
theorem dX2_fitsKind_7 : decode cX2_fitsKind 7 = .ok (.iload_n 3, 1) := by decide +kernel
theorem dX2_fitsKind_8 : decode cX2_fitsKind 8 = .ok (.sipush 999, 3) := by decide +kernel
theorem dX2_fitsKind_11 : decode cX2_fitsKind 11 = .ok (.if_icmp .le 5, 3) := by decide +kernel
theorem dX2_fitsKind_14 : decode cX2_fitsKind 14 = .ok (.iconst 0, 1) := by decide +kernel
theorem dX2_fitsKind_15 : decode cX2_fitsKind 15 = .ok (.ireturn, 1) := by decide +kernel
theorem dX2_fitsKind_16 : decode cX2_fitsKind 16 = .ok (.iload_n 0, 1) := by decide +kernel
theorem dX2_fitsKind_17 : decode cX2_fitsKind 17 = .ok (.iconst 1, 1) := by decide +kernel
theorem dX2_fitsKind_18 : decode cX2_fitsKind 18 = .ok (.if_icmp .ne 13, 3) := by decide +kernel
theorem dX2_fitsKind_21 : decode cX2_fitsKind 21 = .ok (.iload_n 3, 1) := by decide +kernel
theorem dX2_fitsKind_22 : decode cX2_fitsKind 22 = .ok (.ifCond .lt 7, 3) := by decide +kernel
theorem dX2_fitsKind_25 : decode cX2_fitsKind 25 = .ok (.iconst 1, 1) := by decide +kernel
theorem dX2_fitsKind_26 : decode cX2_fitsKind 26 = .ok (.goto 4, 3) := by decide +kernel
theorem dX2_fitsKind_29 : decode cX2_fitsKind 29 = .ok (.iconst 0, 1) := by decide +kernel
theorem dX2_fitsKind_30 : decode cX2_fitsKind 30 = .ok (.ireturn, 1) := by decide +kernel
theorem dX2_fitsKind_31 : decode cX2_fitsKind 31 = .ok (.iload_n 0, 1) := by decide +kernel
theorem dX2_fitsKind_32 : decode cX2_fitsKind 32 = .ok (.iconst 3, 1) := by decide +kernel
theorem dX2_fitsKind_33 : decode cX2_fitsKind 33 = .ok (.if_icmp .ne 19, 3) := by decide +kernel
theorem dX2_fitsKind_36 : decode cX2_fitsKind 36 = .ok (.iload_n 3, 1) := by decide +kernel
theorem dX2_fitsKind_37 : decode cX2_fitsKind 37 = .ok (.iconst 1, 1) := by decide +kernel
theorem dX2_fitsKind_38 : decode cX2_fitsKind 38 = .ok (.if_icmp .lt 12, 3) := by decide +kernel
theorem dX2_fitsKind_41 : decode cX2_fitsKind 41 = .ok (.iload_n 1, 1) := by decide +kernel
theorem dX2_fitsKind_42 : decode cX2_fitsKind 42 = .ok (.iload_n 2, 1) := by decide +kernel
theorem dX2_fitsKind_43 : decode cX2_fitsKind 43 = .ok (.if_icmp .eq 7, 3) := by decide +kernel
theorem dX2_fitsKind_46 : decode cX2_fitsKind 46 = .ok (.iconst 1, 1) := by decide +kernel
theorem dX2_fitsKind_47 : decode cX2_fitsKind 47 = .ok (.goto 4, 3) := by decide +kernel
theorem dX2_fitsKind_50 : decode cX2_fitsKind 50 = .ok (.iconst 0, 1) := by decide +kernel
theorem dX2_fitsKind_51 : decode cX2_fitsKind 51 = .ok (.ireturn, 1) := by decide +kernel
theorem dX2_fitsKind_52 : decode cX2_fitsKind 52 = .ok (.iconst 1, 1) := by decide +kernel
theorem dX2_fitsKind_53 : decode cX2_fitsKind 53 = .ok (.ireturn, 1) := by decide +kernel
theorem dX2_needDrawer_0 : decode cX2_needDrawer 0 = .ok (.iload_n 1, 1) := by decide +kernel
theorem dX2_needDrawer_1 : decode cX2_needDrawer 1 = .ok (.ifCond .lt 14, 3) := by decide +kernel
theorem dX2_needDrawer_4 : decode cX2_needDrawer 4 = .ok (.iload_n 1, 1) := by decide +kernel
theorem dX2_needDrawer_5 : decode cX2_needDrawer 5 = .ok (.aload_n 0, 1) := by decide +kernel
theorem dX2_needDrawer_6 : decode cX2_needDrawer 6 = .ok (.getfield 10, 3) := by decide +kernel
theorem dX2_needDrawer_9 : decode cX2_needDrawer 9 = .ok (.getfield 26, 3) := by decide +kernel
theorem dX2_needDrawer_12 : decode cX2_needDrawer 12 = .ok (.if_icmp .lt 13, 3) := by decide +kernel
theorem dX2_needDrawer_15 : decode cX2_needDrawer 15 = .ok (.new 123, 3) := by decide +kernel
theorem dX2_needDrawer_18 : decode cX2_needDrawer 18 = .ok (.dup, 1) := by decide +kernel
theorem dX2_needDrawer_19 : decode cX2_needDrawer 19 = .ok (.ldc 179, 2) := by decide +kernel
theorem dX2_needDrawer_21 : decode cX2_needDrawer 21 = .ok (.invokespecial 127, 3) := by decide +kernel
theorem dX2_needDrawer_24 : decode cX2_needDrawer 24 = .ok (.athrow, 1) := by decide +kernel
theorem dX2_needDrawer_25 : decode cX2_needDrawer 25 = .ok (.return_, 1) := by decide +kernel
theorem dX2_needClerk_0 : decode cX2_needClerk 0 = .ok (.iload_n 1, 1) := by decide +kernel
theorem dX2_needClerk_1 : decode cX2_needClerk 1 = .ok (.ifCond .lt 14, 3) := by decide +kernel
theorem dX2_needClerk_4 : decode cX2_needClerk 4 = .ok (.iload_n 1, 1) := by decide +kernel
theorem dX2_needClerk_5 : decode cX2_needClerk 5 = .ok (.aload_n 0, 1) := by decide +kernel
theorem dX2_needClerk_6 : decode cX2_needClerk 6 = .ok (.getfield 10, 3) := by decide +kernel
theorem dX2_needClerk_9 : decode cX2_needClerk 9 = .ok (.getfield 47, 3) := by decide +kernel
theorem dX2_needClerk_12 : decode cX2_needClerk 12 = .ok (.if_icmp .lt 13, 3) := by decide +kernel
theorem dX2_needClerk_15 : decode cX2_needClerk 15 = .ok (.new 123, 3) := by decide +kernel
theorem dX2_needClerk_18 : decode cX2_needClerk 18 = .ok (.dup, 1) := by decide +kernel
theorem dX2_needClerk_19 : decode cX2_needClerk 19 = .ok (.ldc 181, 2) := by decide +kernel
theorem dX2_needClerk_21 : decode cX2_needClerk 21 = .ok (.invokespecial 127, 3) := by decide +kernel
theorem dX2_needClerk_24 : decode cX2_needClerk 24 = .ok (.athrow, 1) := by decide +kernel
theorem dX2_needClerk_25 : decode cX2_needClerk 25 = .ok (.return_, 1) := by decide +kernel
theorem dX2_needWhat_0 : decode cX2_needWhat 0 = .ok (.iload_n 0, 1) := by decide +kernel
theorem dX2_needWhat_1 : decode cX2_needWhat 1 = .ok (.iload_n 1, 1) := by decide +kernel
theorem dX2_needWhat_2 : decode cX2_needWhat 2 = .ok (.if_icmp .lt 8, 3) := by decide +kernel
theorem dX2_needWhat_5 : decode cX2_needWhat 5 = .ok (.iload_n 0, 1) := by decide +kernel
theorem dX2_needWhat_6 : decode cX2_needWhat 6 = .ok (.iload_n 2, 1) := by decide +kernel
theorem dX2_needWhat_7 : decode cX2_needWhat 7 = .ok (.if_icmp .le 13, 3) := by decide +kernel
theorem dX2_needWhat_10 : decode cX2_needWhat 10 = .ok (.new 123, 3) := by decide +kernel
theorem dX2_needWhat_13 : decode cX2_needWhat 13 = .ok (.dup, 1) := by decide +kernel
theorem dX2_needWhat_14 : decode cX2_needWhat 14 = .ok (.ldc 183, 2) := by decide +kernel
theorem dX2_needWhat_16 : decode cX2_needWhat 16 = .ok (.invokespecial 127, 3) := by decide +kernel
theorem dX2_needWhat_19 : decode cX2_needWhat 19 = .ok (.athrow, 1) := by decide +kernel
theorem dX2_needWhat_20 : decode cX2_needWhat 20 = .ok (.return_, 1) := by decide +kernel
theorem dX2_needRounds_0 : decode cX2_needRounds 0 = .ok (.iload_n 0, 1) := by decide +kernel
theorem dX2_needRounds_1 : decode cX2_needRounds 1 = .ok (.iconst 1, 1) := by decide +kernel
theorem dX2_needRounds_2 : decode cX2_needRounds 2 = .ok (.if_icmp .lt 9, 3) := by decide +kernel
theorem dX2_needRounds_5 : decode cX2_needRounds 5 = .ok (.iload_n 0, 1) := by decide +kernel
theorem dX2_needRounds_6 : decode cX2_needRounds 6 = .ok (.bipush 50, 2) := by decide +kernel
theorem dX2_needRounds_8 : decode cX2_needRounds 8 = .ok (.if_icmp .le 13, 3) := by decide +kernel
theorem dX2_needRounds_11 : decode cX2_needRounds 11 = .ok (.new 19, 3) := by decide +kernel
theorem dX2_needRounds_14 : decode cX2_needRounds 14 = .ok (.dup, 1) := by decide +kernel
theorem dX2_needRounds_15 : decode cX2_needRounds 15 = .ok (.ldc 185, 2) := by decide +kernel
theorem dX2_needRounds_17 : decode cX2_needRounds 17 = .ok (.invokespecial 23, 3) := by decide +kernel
theorem dX2_needRounds_20 : decode cX2_needRounds 20 = .ok (.athrow, 1) := by decide +kernel
theorem dX2_needRounds_21 : decode cX2_needRounds 21 = .ok (.return_, 1) := by decide +kernel
theorem dX3_init_0 : decode cX3_init 0 = .ok (.aload_n 0, 1) := by decide +kernel
theorem dX3_init_1 : decode cX3_init 1 = .ok (.invokespecial 1, 3) := by decide +kernel
theorem dX3_init_4 : decode cX3_init 4 = .ok (.aload_n 0, 1) := by decide +kernel
theorem dX3_init_5 : decode cX3_init 5 = .ok (.iconst 0, 1) := by decide +kernel
theorem dX3_init_6 : decode cX3_init 6 = .ok (.anewarray 7, 3) := by decide +kernel
theorem dX3_init_9 : decode cX3_init 9 = .ok (.putfield 9, 3) := by decide +kernel
theorem dX3_init_12 : decode cX3_init 12 = .ok (.aload_n 0, 1) := by decide +kernel
theorem dX3_init_13 : decode cX3_init 13 = .ok (.iconst 0, 1) := by decide +kernel
theorem dX3_init_14 : decode cX3_init 14 = .ok (.anewarray 7, 3) := by decide +kernel
theorem dX3_init_17 : decode cX3_init 17 = .ok (.putfield 15, 3) := by decide +kernel
theorem dX3_init_20 : decode cX3_init 20 = .ok (.aload_n 0, 1) := by decide +kernel
theorem dX3_init_21 : decode cX3_init 21 = .ok (.iconst 0, 1) := by decide +kernel
theorem dX3_init_22 : decode cX3_init 22 = .ok (.anewarray 7, 3) := by decide +kernel
theorem dX3_init_25 : decode cX3_init 25 = .ok (.putfield 18, 3) := by decide +kernel
theorem dX3_init_28 : decode cX3_init 28 = .ok (.return_, 1) := by decide +kernel
theorem dX3_more_0 : decode cX3_more 0 = .ok (.aload_n 0, 1) := by decide +kernel
theorem dX3_more_1 : decode cX3_more 1 = .ok (.arraylength, 1) := by decide +kernel
theorem dX3_more_2 : decode cX3_more 2 = .ok (.iconst 1, 1) := by decide +kernel
theorem dX3_more_3 : decode cX3_more 3 = .ok (.iadd, 1) := by decide +kernel
theorem dX3_more_4 : decode cX3_more 4 = .ok (.anewarray 7, 3) := by decide +kernel
theorem dX3_more_7 : decode cX3_more 7 = .ok (.astore_n 2, 1) := by decide +kernel
theorem dX3_more_8 : decode cX3_more 8 = .ok (.iconst 0, 1) := by decide +kernel
theorem dX3_more_9 : decode cX3_more 9 = .ok (.istore_n 3, 1) := by decide +kernel
theorem dX3_more_10 : decode cX3_more 10 = .ok (.iload_n 3, 1) := by decide +kernel
theorem dX3_more_11 : decode cX3_more 11 = .ok (.aload_n 0, 1) := by decide +kernel
theorem dX3_more_12 : decode cX3_more 12 = .ok (.arraylength, 1) := by decide +kernel
theorem dX3_more_13 : decode cX3_more 13 = .ok (.if_icmp .ge 15, 3) := by decide +kernel
theorem dX3_more_16 : decode cX3_more 16 = .ok (.aload_n 2, 1) := by decide +kernel
theorem dX3_more_17 : decode cX3_more 17 = .ok (.iload_n 3, 1) := by decide +kernel
theorem dX3_more_18 : decode cX3_more 18 = .ok (.aload_n 0, 1) := by decide +kernel
theorem dX3_more_19 : decode cX3_more 19 = .ok (.iload_n 3, 1) := by decide +kernel
theorem dX3_more_20 : decode cX3_more 20 = .ok (.aaload, 1) := by decide +kernel
theorem dX3_more_21 : decode cX3_more 21 = .ok (.aastore, 1) := by decide +kernel
theorem dX3_more_22 : decode cX3_more 22 = .ok (.iinc 3 1, 3) := by decide +kernel
theorem dX3_more_25 : decode cX3_more 25 = .ok (.goto (-15), 3) := by decide +kernel
theorem dX3_more_28 : decode cX3_more 28 = .ok (.aload_n 2, 1) := by decide +kernel
theorem dX3_more_29 : decode cX3_more 29 = .ok (.aload_n 0, 1) := by decide +kernel
theorem dX3_more_30 : decode cX3_more 30 = .ok (.arraylength, 1) := by decide +kernel
theorem dX3_more_31 : decode cX3_more 31 = .ok (.aload_n 1, 1) := by decide +kernel
theorem dX3_more_32 : decode cX3_more 32 = .ok (.aastore, 1) := by decide +kernel
theorem dX3_more_33 : decode cX3_more 33 = .ok (.aload_n 2, 1) := by decide +kernel
theorem dX3_more_34 : decode cX3_more 34 = .ok (.areturn, 1) := by decide +kernel
theorem dX3_find_0 : decode cX3_find 0 = .ok (.aload_n 0, 1) := by decide +kernel
theorem dX3_find_1 : decode cX3_find 1 = .ok (.astore_n 2, 1) := by decide +kernel
theorem dX3_find_2 : decode cX3_find 2 = .ok (.aload_n 2, 1) := by decide +kernel
theorem dX3_find_3 : decode cX3_find 3 = .ok (.arraylength, 1) := by decide +kernel
theorem dX3_find_4 : decode cX3_find 4 = .ok (.istore_n 3, 1) := by decide +kernel
theorem dX3_find_5 : decode cX3_find 5 = .ok (.iconst 0, 1) := by decide +kernel
theorem dX3_find_6 : decode cX3_find 6 = .ok (.istore 4, 2) := by decide +kernel
theorem dX3_find_8 : decode cX3_find 8 = .ok (.iload 4, 2) := by decide +kernel
theorem dX3_find_10 : decode cX3_find 10 = .ok (.iload_n 3, 1) := by decide +kernel
theorem dX3_find_11 : decode cX3_find 11 = .ok (.if_icmp .ge 26, 3) := by decide +kernel
theorem dX3_find_14 : decode cX3_find 14 = .ok (.aload_n 2, 1) := by decide +kernel
theorem dX3_find_15 : decode cX3_find 15 = .ok (.iload 4, 2) := by decide +kernel
theorem dX3_find_17 : decode cX3_find 17 = .ok (.aaload, 1) := by decide +kernel
theorem dX3_find_18 : decode cX3_find 18 = .ok (.astore 5, 2) := by decide +kernel
theorem dX3_find_20 : decode cX3_find 20 = .ok (.aload 5, 2) := by decide +kernel
theorem dX3_find_22 : decode cX3_find 22 = .ok (.iconst 0, 1) := by decide +kernel
theorem dX3_find_23 : decode cX3_find 23 = .ok (.iaload, 1) := by decide +kernel
theorem dX3_find_24 : decode cX3_find 24 = .ok (.iload_n 1, 1) := by decide +kernel
theorem dX3_find_25 : decode cX3_find 25 = .ok (.if_icmp .ne 6, 3) := by decide +kernel
theorem dX3_find_28 : decode cX3_find 28 = .ok (.aload 5, 2) := by decide +kernel
theorem dX3_find_30 : decode cX3_find 30 = .ok (.areturn, 1) := by decide +kernel
theorem dX3_find_31 : decode cX3_find 31 = .ok (.iinc 4 1, 3) := by decide +kernel
theorem dX3_find_34 : decode cX3_find 34 = .ok (.goto (-26), 3) := by decide +kernel
theorem dX3_find_37 : decode cX3_find 37 = .ok (.aconst_null, 1) := by decide +kernel
theorem dX3_find_38 : decode cX3_find 38 = .ok (.areturn, 1) := by decide +kernel
theorem dX3_begin_0 : decode cX3_begin 0 = .ok (.aload_n 0, 1) := by decide +kernel
theorem dX3_begin_1 : decode cX3_begin 1 = .ok (.iconst 0, 1) := by decide +kernel
theorem dX3_begin_2 : decode cX3_begin 2 = .ok (.putfield 22, 3) := by decide +kernel
theorem dX3_begin_5 : decode cX3_begin 5 = .ok (.aload_n 0, 1) := by decide +kernel
theorem dX3_begin_6 : decode cX3_begin 6 = .ok (.iconst 0, 1) := by decide +kernel
theorem dX3_begin_7 : decode cX3_begin 7 = .ok (.putfield 26, 3) := by decide +kernel
theorem dX3_begin_10 : decode cX3_begin 10 = .ok (.aload_n 0, 1) := by decide +kernel
theorem dX3_begin_11 : decode cX3_begin 11 = .ok (.iconst 0, 1) := by decide +kernel
theorem dX3_begin_12 : decode cX3_begin 12 = .ok (.anewarray 7, 3) := by decide +kernel
theorem dX3_begin_15 : decode cX3_begin 15 = .ok (.putfield 15, 3) := by decide +kernel
theorem dX3_begin_18 : decode cX3_begin 18 = .ok (.aload_n 0, 1) := by decide +kernel
theorem dX3_begin_19 : decode cX3_begin 19 = .ok (.iconst 0, 1) := by decide +kernel
theorem dX3_begin_20 : decode cX3_begin 20 = .ok (.anewarray 7, 3) := by decide +kernel
theorem dX3_begin_23 : decode cX3_begin 23 = .ok (.putfield 18, 3) := by decide +kernel
theorem dX3_begin_26 : decode cX3_begin 26 = .ok (.return_, 1) := by decide +kernel
theorem dX3_read_0 : decode cX3_read 0 = .ok (.aload_n 0, 1) := by decide +kernel
theorem dX3_read_1 : decode cX3_read 1 = .ok (.getfield 18, 3) := by decide +kernel
theorem dX3_read_4 : decode cX3_read 4 = .ok (.iload_n 2, 1) := by decide +kernel
theorem dX3_read_5 : decode cX3_read 5 = .ok (.invokestatic 37, 3) := by decide +kernel
theorem dX3_read_8 : decode cX3_read 8 = .ok (.astore_n 3, 1) := by decide +kernel
theorem dX3_read_9 : decode cX3_read 9 = .ok (.aload_n 3, 1) := by decide +kernel
theorem dX3_read_10 : decode cX3_read 10 = .ok (.ifnull 7, 3) := by decide +kernel
theorem dX3_read_13 : decode cX3_read 13 = .ok (.aload_n 3, 1) := by decide +kernel
theorem dX3_read_14 : decode cX3_read 14 = .ok (.iconst 1, 1) := by decide +kernel
theorem dX3_read_15 : decode cX3_read 15 = .ok (.iaload, 1) := by decide +kernel
theorem dX3_read_16 : decode cX3_read 16 = .ok (.ireturn, 1) := by decide +kernel
theorem dX3_read_17 : decode cX3_read 17 = .ok (.aload_n 0, 1) := by decide +kernel
theorem dX3_read_18 : decode cX3_read 18 = .ok (.getfield 15, 3) := by decide +kernel
theorem dX3_read_21 : decode cX3_read 21 = .ok (.iload_n 2, 1) := by decide +kernel
theorem dX3_read_22 : decode cX3_read 22 = .ok (.invokestatic 37, 3) := by decide +kernel
theorem dX3_read_25 : decode cX3_read 25 = .ok (.astore 4, 2) := by decide +kernel
theorem dX3_read_27 : decode cX3_read 27 = .ok (.aload 4, 2) := by decide +kernel
theorem dX3_read_29 : decode cX3_read 29 = .ok (.ifnonnull 43, 3) := by decide +kernel
theorem dX3_read_32 : decode cX3_read 32 = .ok (.iconst 3, 1) := by decide +kernel
theorem dX3_read_33 : decode cX3_read 33 = .ok (.newarray .int, 2) := by decide +kernel
theorem dX3_read_35 : decode cX3_read 35 = .ok (.dup, 1) := by decide +kernel
theorem dX3_read_36 : decode cX3_read 36 = .ok (.iconst 0, 1) := by decide +kernel
theorem dX3_read_37 : decode cX3_read 37 = .ok (.iload_n 2, 1) := by decide +kernel
theorem dX3_read_38 : decode cX3_read 38 = .ok (.iastore, 1) := by decide +kernel
theorem dX3_read_39 : decode cX3_read 39 = .ok (.dup, 1) := by decide +kernel
theorem dX3_read_40 : decode cX3_read 40 = .ok (.iconst 1, 1) := by decide +kernel
theorem dX3_read_41 : decode cX3_read 41 = .ok (.aload_n 1, 1) := by decide +kernel
theorem dX3_read_42 : decode cX3_read 42 = .ok (.getfield 41, 3) := by decide +kernel
theorem dX3_read_45 : decode cX3_read 45 = .ok (.iload_n 2, 1) := by decide +kernel
theorem dX3_read_46 : decode cX3_read 46 = .ok (.iaload, 1) := by decide +kernel
theorem dX3_read_47 : decode cX3_read 47 = .ok (.iastore, 1) := by decide +kernel
theorem dX3_read_48 : decode cX3_read 48 = .ok (.dup, 1) := by decide +kernel
theorem dX3_read_49 : decode cX3_read 49 = .ok (.iconst 2, 1) := by decide +kernel
theorem dX3_read_50 : decode cX3_read 50 = .ok (.aload_n 1, 1) := by decide +kernel
theorem dX3_read_51 : decode cX3_read 51 = .ok (.getfield 46, 3) := by decide +kernel
theorem dX3_read_54 : decode cX3_read 54 = .ok (.iload_n 2, 1) := by decide +kernel
theorem dX3_read_55 : decode cX3_read 55 = .ok (.iaload, 1) := by decide +kernel
theorem dX3_read_56 : decode cX3_read 56 = .ok (.iastore, 1) := by decide +kernel
theorem dX3_read_57 : decode cX3_read 57 = .ok (.astore 4, 2) := by decide +kernel
theorem dX3_read_59 : decode cX3_read 59 = .ok (.aload_n 0, 1) := by decide +kernel
theorem dX3_read_60 : decode cX3_read 60 = .ok (.aload_n 0, 1) := by decide +kernel
theorem dX3_read_61 : decode cX3_read 61 = .ok (.getfield 15, 3) := by decide +kernel
theorem dX3_read_64 : decode cX3_read 64 = .ok (.aload 4, 2) := by decide +kernel
theorem dX3_read_66 : decode cX3_read 66 = .ok (.invokestatic 33, 3) := by decide +kernel
theorem dX3_read_69 : decode cX3_read 69 = .ok (.putfield 15, 3) := by decide +kernel
theorem dX3_read_72 : decode cX3_read 72 = .ok (.aload 4, 2) := by decide +kernel
theorem dX3_read_74 : decode cX3_read 74 = .ok (.iconst 1, 1) := by decide +kernel
theorem dX3_read_75 : decode cX3_read 75 = .ok (.iaload, 1) := by decide +kernel
theorem dX3_read_76 : decode cX3_read 76 = .ok (.ireturn, 1) := by decide +kernel
theorem dX3_write_0 : decode cX3_write 0 = .ok (.iload_n 2, 1) := by decide +kernel
theorem dX3_write_1 : decode cX3_write 1 = .ok (.sipush 9999, 3) := by decide +kernel
theorem dX3_write_4 : decode cX3_write 4 = .ok (.if_icmp .le 9, 3) := by decide +kernel
theorem dX3_write_7 : decode cX3_write 7 = .ok (.sipush 9999, 3) := by decide +kernel
theorem dX3_write_10 : decode cX3_write 10 = .ok (.goto 12, 3) := by decide +kernel
theorem dX3_write_13 : decode cX3_write 13 = .ok (.iload_n 2, 1) := by decide +kernel
theorem dX3_write_14 : decode cX3_write 14 = .ok (.ifCond .ge 7, 3) := by decide +kernel
theorem dX3_write_17 : decode cX3_write 17 = .ok (.iconst 0, 1) := by decide +kernel
theorem dX3_write_18 : decode cX3_write 18 = .ok (.goto 4, 3) := by decide +kernel
theorem dX3_write_21 : decode cX3_write 21 = .ok (.iload_n 2, 1) := by decide +kernel
theorem dX3_write_22 : decode cX3_write 22 = .ok (.istore_n 3, 1) := by decide +kernel
theorem dX3_write_23 : decode cX3_write 23 = .ok (.aload_n 0, 1) := by decide +kernel
theorem dX3_write_24 : decode cX3_write 24 = .ok (.getfield 18, 3) := by decide +kernel
theorem dX3_write_27 : decode cX3_write 27 = .ok (.iload_n 1, 1) := by decide +kernel
theorem dX3_write_28 : decode cX3_write 28 = .ok (.invokestatic 37, 3) := by decide +kernel
theorem dX3_write_31 : decode cX3_write 31 = .ok (.astore 4, 2) := by decide +kernel
theorem dX3_write_33 : decode cX3_write 33 = .ok (.aload 4, 2) := by decide +kernel
theorem dX3_write_35 : decode cX3_write 35 = .ok (.ifnonnull 28, 3) := by decide +kernel
theorem dX3_write_38 : decode cX3_write 38 = .ok (.aload_n 0, 1) := by decide +kernel
theorem dX3_write_39 : decode cX3_write 39 = .ok (.aload_n 0, 1) := by decide +kernel
theorem dX3_write_40 : decode cX3_write 40 = .ok (.getfield 18, 3) := by decide +kernel
theorem dX3_write_43 : decode cX3_write 43 = .ok (.iconst 2, 1) := by decide +kernel
theorem dX3_write_44 : decode cX3_write 44 = .ok (.newarray .int, 2) := by decide +kernel
theorem dX3_write_46 : decode cX3_write 46 = .ok (.dup, 1) := by decide +kernel
theorem dX3_write_47 : decode cX3_write 47 = .ok (.iconst 0, 1) := by decide +kernel
theorem dX3_write_48 : decode cX3_write 48 = .ok (.iload_n 1, 1) := by decide +kernel
theorem dX3_write_49 : decode cX3_write 49 = .ok (.iastore, 1) := by decide +kernel
theorem dX3_write_50 : decode cX3_write 50 = .ok (.dup, 1) := by decide +kernel
theorem dX3_write_51 : decode cX3_write 51 = .ok (.iconst 1, 1) := by decide +kernel
theorem dX3_write_52 : decode cX3_write 52 = .ok (.iload_n 3, 1) := by decide +kernel
theorem dX3_write_53 : decode cX3_write 53 = .ok (.iastore, 1) := by decide +kernel
theorem dX3_write_54 : decode cX3_write 54 = .ok (.invokestatic 33, 3) := by decide +kernel
theorem dX3_write_57 : decode cX3_write 57 = .ok (.putfield 18, 3) := by decide +kernel
theorem dX3_write_60 : decode cX3_write 60 = .ok (.goto 8, 3) := by decide +kernel
theorem dX3_write_63 : decode cX3_write 63 = .ok (.aload 4, 2) := by decide +kernel
theorem dX3_write_65 : decode cX3_write 65 = .ok (.iconst 1, 1) := by decide +kernel
theorem dX3_write_66 : decode cX3_write 66 = .ok (.iload_n 3, 1) := by decide +kernel
theorem dX3_write_67 : decode cX3_write 67 = .ok (.iastore, 1) := by decide +kernel
theorem dX3_write_68 : decode cX3_write 68 = .ok (.return_, 1) := by decide +kernel
theorem dX3_act_0 : decode cX3_act 0 = .ok (.aload_n 2, 1) := by decide +kernel
theorem dX3_act_1 : decode cX3_act 1 = .ok (.iconst 0, 1) := by decide +kernel
theorem dX3_act_2 : decode cX3_act 2 = .ok (.iaload, 1) := by decide +kernel
theorem dX3_act_3 : decode cX3_act 3 = .ok (.iconst 1, 1) := by decide +kernel
theorem dX3_act_4 : decode cX3_act 4 = .ok (.if_icmp .ne 13, 3) := by decide +kernel
theorem dX3_act_7 : decode cX3_act 7 = .ok (.aload_n 0, 1) := by decide +kernel
theorem dX3_act_8 : decode cX3_act 8 = .ok (.aload_n 2, 1) := by decide +kernel
theorem dX3_act_9 : decode cX3_act 9 = .ok (.iconst 1, 1) := by decide +kernel
theorem dX3_act_10 : decode cX3_act 10 = .ok (.iaload, 1) := by decide +kernel
theorem dX3_act_11 : decode cX3_act 11 = .ok (.aload_n 2, 1) := by decide +kernel
theorem dX3_act_12 : decode cX3_act 12 = .ok (.iconst 3, 1) := by decide +kernel
theorem dX3_act_13 : decode cX3_act 13 = .ok (.iaload, 1) := by decide +kernel
theorem dX3_act_14 : decode cX3_act 14 = .ok (.invokevirtual 49, 3) := by decide +kernel
theorem dX3_act_17 : decode cX3_act 17 = .ok (.aload_n 2, 1) := by decide +kernel
theorem dX3_act_18 : decode cX3_act 18 = .ok (.iconst 0, 1) := by decide +kernel
theorem dX3_act_19 : decode cX3_act 19 = .ok (.iaload, 1) := by decide +kernel
theorem dX3_act_20 : decode cX3_act 20 = .ok (.iconst 1, 1) := by decide +kernel
theorem dX3_act_21 : decode cX3_act 21 = .ok (.if_icmp .ne 4, 3) := by decide +kernel
theorem dX3_act_24 : decode cX3_act 24 = .ok (.return_, 1) := by decide +kernel
theorem dX3_act_25 : decode cX3_act 25 = .ok (.aload_n 0, 1) := by decide +kernel
theorem dX3_act_26 : decode cX3_act 26 = .ok (.aload_n 1, 1) := by decide +kernel
theorem dX3_act_27 : decode cX3_act 27 = .ok (.aload_n 2, 1) := by decide +kernel
theorem dX3_act_28 : decode cX3_act 28 = .ok (.iconst 1, 1) := by decide +kernel
theorem dX3_act_29 : decode cX3_act 29 = .ok (.iaload, 1) := by decide +kernel
theorem dX3_act_30 : decode cX3_act 30 = .ok (.invokevirtual 53, 3) := by decide +kernel
theorem dX3_act_33 : decode cX3_act 33 = .ok (.istore_n 3, 1) := by decide +kernel
theorem dX3_act_34 : decode cX3_act 34 = .ok (.aload_n 2, 1) := by decide +kernel
theorem dX3_act_35 : decode cX3_act 35 = .ok (.iconst 0, 1) := by decide +kernel
theorem dX3_act_36 : decode cX3_act 36 = .ok (.iaload, 1) := by decide +kernel
theorem dX3_act_37 : decode cX3_act 37 = .ok (.iconst 2, 1) := by decide +kernel
theorem dX3_act_38 : decode cX3_act 38 = .ok (.if_icmp .ne 15, 3) := by decide +kernel
theorem dX3_act_41 : decode cX3_act 41 = .ok (.aload_n 0, 1) := by decide +kernel
theorem dX3_act_42 : decode cX3_act 42 = .ok (.aload_n 2, 1) := by decide +kernel
theorem dX3_act_43 : decode cX3_act 43 = .ok (.iconst 1, 1) := by decide +kernel
theorem dX3_act_44 : decode cX3_act 44 = .ok (.iaload, 1) := by decide +kernel
theorem dX3_act_45 : decode cX3_act 45 = .ok (.iload_n 3, 1) := by decide +kernel
theorem dX3_act_46 : decode cX3_act 46 = .ok (.aload_n 2, 1) := by decide +kernel
theorem dX3_act_47 : decode cX3_act 47 = .ok (.iconst 3, 1) := by decide +kernel
theorem dX3_act_48 : decode cX3_act 48 = .ok (.iaload, 1) := by decide +kernel
theorem dX3_act_49 : decode cX3_act 49 = .ok (.iadd, 1) := by decide +kernel
theorem dX3_act_50 : decode cX3_act 50 = .ok (.invokevirtual 49, 3) := by decide +kernel
theorem dX3_act_53 : decode cX3_act 53 = .ok (.aload_n 2, 1) := by decide +kernel
theorem dX3_act_54 : decode cX3_act 54 = .ok (.iconst 0, 1) := by decide +kernel
theorem dX3_act_55 : decode cX3_act 55 = .ok (.iaload, 1) := by decide +kernel
theorem dX3_act_56 : decode cX3_act 56 = .ok (.iconst 3, 1) := by decide +kernel
theorem dX3_act_57 : decode cX3_act 57 = .ok (.if_icmp .ne 10, 3) := by decide +kernel
theorem dX3_act_60 : decode cX3_act 60 = .ok (.iload_n 3, 1) := by decide +kernel
theorem dX3_act_61 : decode cX3_act 61 = .ok (.aload_n 2, 1) := by decide +kernel
theorem dX3_act_62 : decode cX3_act 62 = .ok (.iconst 3, 1) := by decide +kernel
theorem dX3_act_63 : decode cX3_act 63 = .ok (.iaload, 1) := by decide +kernel
theorem dX3_act_64 : decode cX3_act 64 = .ok (.if_icmp .ge 4, 3) := by decide +kernel
theorem dX3_act_67 : decode cX3_act 67 = .ok (.return_, 1) := by decide +kernel
theorem dX3_act_68 : decode cX3_act 68 = .ok (.aload_n 0, 1) := by decide +kernel
theorem dX3_act_69 : decode cX3_act 69 = .ok (.aload_n 1, 1) := by decide +kernel
theorem dX3_act_70 : decode cX3_act 70 = .ok (.aload_n 2, 1) := by decide +kernel
theorem dX3_act_71 : decode cX3_act 71 = .ok (.iconst 2, 1) := by decide +kernel
theorem dX3_act_72 : decode cX3_act 72 = .ok (.iaload, 1) := by decide +kernel
theorem dX3_act_73 : decode cX3_act 73 = .ok (.invokevirtual 53, 3) := by decide +kernel
theorem dX3_act_76 : decode cX3_act 76 = .ok (.istore 4, 2) := by decide +kernel
theorem dX3_act_78 : decode cX3_act 78 = .ok (.aload_n 0, 1) := by decide +kernel
theorem dX3_act_79 : decode cX3_act 79 = .ok (.aload_n 2, 1) := by decide +kernel
theorem dX3_act_80 : decode cX3_act 80 = .ok (.iconst 1, 1) := by decide +kernel
theorem dX3_act_81 : decode cX3_act 81 = .ok (.iaload, 1) := by decide +kernel
theorem dX3_act_82 : decode cX3_act 82 = .ok (.iload_n 3, 1) := by decide +kernel
theorem dX3_act_83 : decode cX3_act 83 = .ok (.aload_n 2, 1) := by decide +kernel
theorem dX3_act_84 : decode cX3_act 84 = .ok (.iconst 3, 1) := by decide +kernel
theorem dX3_act_85 : decode cX3_act 85 = .ok (.iaload, 1) := by decide +kernel
theorem dX3_act_86 : decode cX3_act 86 = .ok (.isub, 1) := by decide +kernel
theorem dX3_act_87 : decode cX3_act 87 = .ok (.invokevirtual 49, 3) := by decide +kernel
theorem dX3_act_90 : decode cX3_act 90 = .ok (.aload_n 0, 1) := by decide +kernel
theorem dX3_act_91 : decode cX3_act 91 = .ok (.aload_n 2, 1) := by decide +kernel
theorem dX3_act_92 : decode cX3_act 92 = .ok (.iconst 2, 1) := by decide +kernel
theorem dX3_act_93 : decode cX3_act 93 = .ok (.iaload, 1) := by decide +kernel
theorem dX3_act_94 : decode cX3_act 94 = .ok (.iload 4, 2) := by decide +kernel
theorem dX3_act_96 : decode cX3_act 96 = .ok (.aload_n 2, 1) := by decide +kernel
theorem dX3_act_97 : decode cX3_act 97 = .ok (.iconst 3, 1) := by decide +kernel
theorem dX3_act_98 : decode cX3_act 98 = .ok (.iaload, 1) := by decide +kernel
theorem dX3_act_99 : decode cX3_act 99 = .ok (.iadd, 1) := by decide +kernel
theorem dX3_act_100 : decode cX3_act 100 = .ok (.invokevirtual 49, 3) := by decide +kernel
theorem dX3_act_103 : decode cX3_act 103 = .ok (.return_, 1) := by decide +kernel
theorem dX3_isLosing_0 : decode cX3_isLosing 0 = .ok (.aload_n 0, 1) := by decide +kernel
theorem dX3_isLosing_1 : decode cX3_isLosing 1 = .ok (.getfield 15, 3) := by decide +kernel
theorem dX3_isLosing_4 : decode cX3_isLosing 4 = .ok (.astore_n 2, 1) := by decide +kernel
theorem dX3_isLosing_5 : decode cX3_isLosing 5 = .ok (.aload_n 2, 1) := by decide +kernel
theorem dX3_isLosing_6 : decode cX3_isLosing 6 = .ok (.arraylength, 1) := by decide +kernel
theorem dX3_isLosing_7 : decode cX3_isLosing 7 = .ok (.istore_n 3, 1) := by decide +kernel
theorem dX3_isLosing_8 : decode cX3_isLosing 8 = .ok (.iconst 0, 1) := by decide +kernel
theorem dX3_isLosing_9 : decode cX3_isLosing 9 = .ok (.istore 4, 2) := by decide +kernel
theorem dX3_isLosing_11 : decode cX3_isLosing 11 = .ok (.iload 4, 2) := by decide +kernel
theorem dX3_isLosing_13 : decode cX3_isLosing 13 = .ok (.iload_n 3, 1) := by decide +kernel
theorem dX3_isLosing_14 : decode cX3_isLosing 14 = .ok (.if_icmp .ge 33, 3) := by decide +kernel
theorem dX3_isLosing_17 : decode cX3_isLosing 17 = .ok (.aload_n 2, 1) := by decide +kernel
theorem dX3_isLosing_18 : decode cX3_isLosing 18 = .ok (.iload 4, 2) := by decide +kernel
theorem dX3_isLosing_20 : decode cX3_isLosing 20 = .ok (.aaload, 1) := by decide +kernel
theorem dX3_isLosing_21 : decode cX3_isLosing 21 = .ok (.astore 5, 2) := by decide +kernel
theorem dX3_isLosing_23 : decode cX3_isLosing 23 = .ok (.aload_n 1, 1) := by decide +kernel
theorem dX3_isLosing_24 : decode cX3_isLosing 24 = .ok (.getfield 46, 3) := by decide +kernel
theorem dX3_isLosing_27 : decode cX3_isLosing 27 = .ok (.aload 5, 2) := by decide +kernel
theorem dX3_isLosing_29 : decode cX3_isLosing 29 = .ok (.iconst 0, 1) := by decide +kernel
theorem dX3_isLosing_30 : decode cX3_isLosing 30 = .ok (.iaload, 1) := by decide +kernel
theorem dX3_isLosing_31 : decode cX3_isLosing 31 = .ok (.iaload, 1) := by decide +kernel
theorem dX3_isLosing_32 : decode cX3_isLosing 32 = .ok (.aload 5, 2) := by decide +kernel
theorem dX3_isLosing_34 : decode cX3_isLosing 34 = .ok (.iconst 2, 1) := by decide +kernel
theorem dX3_isLosing_35 : decode cX3_isLosing 35 = .ok (.iaload, 1) := by decide +kernel
theorem dX3_isLosing_36 : decode cX3_isLosing 36 = .ok (.if_icmp .eq 5, 3) := by decide +kernel
theorem dX3_isLosing_39 : decode cX3_isLosing 39 = .ok (.iconst 1, 1) := by decide +kernel
theorem dX3_isLosing_40 : decode cX3_isLosing 40 = .ok (.ireturn, 1) := by decide +kernel
theorem dX3_isLosing_41 : decode cX3_isLosing 41 = .ok (.iinc 4 1, 3) := by decide +kernel
theorem dX3_isLosing_44 : decode cX3_isLosing 44 = .ok (.goto (-33), 3) := by decide +kernel
theorem dX3_isLosing_47 : decode cX3_isLosing 47 = .ok (.iconst 0, 1) := by decide +kernel
theorem dX3_isLosing_48 : decode cX3_isLosing 48 = .ok (.ireturn, 1) := by decide +kernel
theorem dX4_init_0 : decode cX4_init 0 = .ok (.aload_n 0, 1) := by decide +kernel
theorem dX4_init_1 : decode cX4_init 1 = .ok (.invokespecial 1, 3) := by decide +kernel
theorem dX4_init_4 : decode cX4_init 4 = .ok (.aload_n 0, 1) := by decide +kernel
theorem dX4_init_5 : decode cX4_init 5 = .ok (.iconst 0, 1) := by decide +kernel
theorem dX4_init_6 : decode cX4_init 6 = .ok (.anewarray 7, 3) := by decide +kernel
theorem dX4_init_9 : decode cX4_init 9 = .ok (.putfield 9, 3) := by decide +kernel
theorem dX4_init_12 : decode cX4_init 12 = .ok (.aload_n 0, 1) := by decide +kernel
theorem dX4_init_13 : decode cX4_init 13 = .ok (.iconst 0, 1) := by decide +kernel
theorem dX4_init_14 : decode cX4_init 14 = .ok (.anewarray 15, 3) := by decide +kernel
theorem dX4_init_17 : decode cX4_init 17 = .ok (.putfield 17, 3) := by decide +kernel
theorem dX4_init_20 : decode cX4_init 20 = .ok (.aload_n 0, 1) := by decide +kernel
theorem dX4_init_21 : decode cX4_init 21 = .ok (.iload_n 1, 1) := by decide +kernel
theorem dX4_init_22 : decode cX4_init 22 = .ok (.newarray .int, 2) := by decide +kernel
theorem dX4_init_24 : decode cX4_init 24 = .ok (.putfield 21, 3) := by decide +kernel
theorem dX4_init_27 : decode cX4_init 27 = .ok (.aload_n 0, 1) := by decide +kernel
theorem dX4_init_28 : decode cX4_init 28 = .ok (.iload_n 1, 1) := by decide +kernel
theorem dX4_init_29 : decode cX4_init 29 = .ok (.newarray .int, 2) := by decide +kernel
theorem dX4_init_31 : decode cX4_init 31 = .ok (.putfield 24, 3) := by decide +kernel
theorem dX4_init_34 : decode cX4_init 34 = .ok (.return_, 1) := by decide +kernel
theorem dX4_addClerk_0 : decode cX4_addClerk 0 = .ok (.aload_n 0, 1) := by decide +kernel
theorem dX4_addClerk_1 : decode cX4_addClerk 1 = .ok (.getfield 9, 3) := by decide +kernel
theorem dX4_addClerk_4 : decode cX4_addClerk 4 = .ok (.arraylength, 1) := by decide +kernel
theorem dX4_addClerk_5 : decode cX4_addClerk 5 = .ok (.iconst 1, 1) := by decide +kernel
theorem dX4_addClerk_6 : decode cX4_addClerk 6 = .ok (.iadd, 1) := by decide +kernel
theorem dX4_addClerk_7 : decode cX4_addClerk 7 = .ok (.anewarray 7, 3) := by decide +kernel
theorem dX4_addClerk_10 : decode cX4_addClerk 10 = .ok (.astore_n 1, 1) := by decide +kernel
theorem dX4_addClerk_11 : decode cX4_addClerk 11 = .ok (.iconst 0, 1) := by decide +kernel
theorem dX4_addClerk_12 : decode cX4_addClerk 12 = .ok (.istore_n 2, 1) := by decide +kernel
theorem dX4_addClerk_13 : decode cX4_addClerk 13 = .ok (.iload_n 2, 1) := by decide +kernel
theorem dX4_addClerk_14 : decode cX4_addClerk 14 = .ok (.aload_n 0, 1) := by decide +kernel
theorem dX4_addClerk_15 : decode cX4_addClerk 15 = .ok (.getfield 9, 3) := by decide +kernel
theorem dX4_addClerk_18 : decode cX4_addClerk 18 = .ok (.arraylength, 1) := by decide +kernel
theorem dX4_addClerk_19 : decode cX4_addClerk 19 = .ok (.if_icmp .ge 18, 3) := by decide +kernel
theorem dX4_addClerk_22 : decode cX4_addClerk 22 = .ok (.aload_n 1, 1) := by decide +kernel
theorem dX4_addClerk_23 : decode cX4_addClerk 23 = .ok (.iload_n 2, 1) := by decide +kernel
theorem dX4_addClerk_24 : decode cX4_addClerk 24 = .ok (.aload_n 0, 1) := by decide +kernel
theorem dX4_addClerk_25 : decode cX4_addClerk 25 = .ok (.getfield 9, 3) := by decide +kernel
theorem dX4_addClerk_28 : decode cX4_addClerk 28 = .ok (.iload_n 2, 1) := by decide +kernel
theorem dX4_addClerk_29 : decode cX4_addClerk 29 = .ok (.aaload, 1) := by decide +kernel
theorem dX4_addClerk_30 : decode cX4_addClerk 30 = .ok (.aastore, 1) := by decide +kernel
theorem dX4_addClerk_31 : decode cX4_addClerk 31 = .ok (.iinc 2 1, 3) := by decide +kernel
theorem dX4_addClerk_34 : decode cX4_addClerk 34 = .ok (.goto (-21), 3) := by decide +kernel
theorem dX4_addClerk_37 : decode cX4_addClerk 37 = .ok (.aload_n 1, 1) := by decide +kernel
theorem dX4_addClerk_38 : decode cX4_addClerk 38 = .ok (.aload_n 0, 1) := by decide +kernel
theorem dX4_addClerk_39 : decode cX4_addClerk 39 = .ok (.getfield 9, 3) := by decide +kernel
theorem dX4_addClerk_42 : decode cX4_addClerk 42 = .ok (.arraylength, 1) := by decide +kernel
theorem dX4_addClerk_43 : decode cX4_addClerk 43 = .ok (.new 7, 3) := by decide +kernel
theorem dX4_addClerk_46 : decode cX4_addClerk 46 = .ok (.dup, 1) := by decide +kernel
theorem dX4_addClerk_47 : decode cX4_addClerk 47 = .ok (.invokespecial 40, 3) := by decide +kernel
theorem dX4_addClerk_50 : decode cX4_addClerk 50 = .ok (.aastore, 1) := by decide +kernel
theorem dX4_addClerk_51 : decode cX4_addClerk 51 = .ok (.aload_n 0, 1) := by decide +kernel
theorem dX4_addClerk_52 : decode cX4_addClerk 52 = .ok (.aload_n 1, 1) := by decide +kernel
theorem dX4_addClerk_53 : decode cX4_addClerk 53 = .ok (.putfield 9, 3) := by decide +kernel
theorem dX4_addClerk_56 : decode cX4_addClerk 56 = .ok (.return_, 1) := by decide +kernel
theorem dX4_sum_0 : decode cX4_sum 0 = .ok (.iconst 0, 1) := by decide +kernel
theorem dX4_sum_1 : decode cX4_sum 1 = .ok (.istore_n 1, 1) := by decide +kernel
theorem dX4_sum_2 : decode cX4_sum 2 = .ok (.aload_n 0, 1) := by decide +kernel
theorem dX4_sum_3 : decode cX4_sum 3 = .ok (.getfield 21, 3) := by decide +kernel
theorem dX4_sum_6 : decode cX4_sum 6 = .ok (.astore_n 2, 1) := by decide +kernel
theorem dX4_sum_7 : decode cX4_sum 7 = .ok (.aload_n 2, 1) := by decide +kernel
theorem dX4_sum_8 : decode cX4_sum 8 = .ok (.arraylength, 1) := by decide +kernel
theorem dX4_sum_9 : decode cX4_sum 9 = .ok (.istore_n 3, 1) := by decide +kernel
theorem dX4_sum_10 : decode cX4_sum 10 = .ok (.iconst 0, 1) := by decide +kernel
theorem dX4_sum_11 : decode cX4_sum 11 = .ok (.istore 4, 2) := by decide +kernel
theorem dX4_sum_13 : decode cX4_sum 13 = .ok (.iload 4, 2) := by decide +kernel
theorem dX4_sum_15 : decode cX4_sum 15 = .ok (.iload_n 3, 1) := by decide +kernel
theorem dX4_sum_16 : decode cX4_sum 16 = .ok (.if_icmp .ge 20, 3) := by decide +kernel
theorem dX4_sum_19 : decode cX4_sum 19 = .ok (.aload_n 2, 1) := by decide +kernel
theorem dX4_sum_20 : decode cX4_sum 20 = .ok (.iload 4, 2) := by decide +kernel
theorem dX4_sum_22 : decode cX4_sum 22 = .ok (.iaload, 1) := by decide +kernel
theorem dX4_sum_23 : decode cX4_sum 23 = .ok (.istore 5, 2) := by decide +kernel
theorem dX4_sum_25 : decode cX4_sum 25 = .ok (.iload_n 1, 1) := by decide +kernel
theorem dX4_sum_26 : decode cX4_sum 26 = .ok (.iload 5, 2) := by decide +kernel
theorem dX4_sum_28 : decode cX4_sum 28 = .ok (.iadd, 1) := by decide +kernel
theorem dX4_sum_29 : decode cX4_sum 29 = .ok (.istore_n 1, 1) := by decide +kernel
theorem dX4_sum_30 : decode cX4_sum 30 = .ok (.iinc 4 1, 3) := by decide +kernel
theorem dX4_sum_33 : decode cX4_sum 33 = .ok (.goto (-20), 3) := by decide +kernel
theorem dX4_sum_36 : decode cX4_sum 36 = .ok (.iload_n 1, 1) := by decide +kernel
theorem dX4_sum_37 : decode cX4_sum 37 = .ok (.ireturn, 1) := by decide +kernel
theorem dX4_close_0 : decode cX4_close 0 = .ok (.aload_n 2, 1) := by decide +kernel
theorem dX4_close_1 : decode cX4_close 1 = .ok (.astore_n 3, 1) := by decide +kernel
theorem dX4_close_2 : decode cX4_close 2 = .ok (.aload_n 3, 1) := by decide +kernel
theorem dX4_close_3 : decode cX4_close 3 = .ok (.arraylength, 1) := by decide +kernel
theorem dX4_close_4 : decode cX4_close 4 = .ok (.istore 4, 2) := by decide +kernel
theorem dX4_close_6 : decode cX4_close 6 = .ok (.iconst 0, 1) := by decide +kernel
theorem dX4_close_7 : decode cX4_close 7 = .ok (.istore 5, 2) := by decide +kernel
theorem dX4_close_9 : decode cX4_close 9 = .ok (.iload 5, 2) := by decide +kernel
theorem dX4_close_11 : decode cX4_close 11 = .ok (.iload 4, 2) := by decide +kernel
theorem dX4_close_13 : decode cX4_close 13 = .ok (.if_icmp .ge 44, 3) := by decide +kernel
theorem dX4_close_16 : decode cX4_close 16 = .ok (.aload_n 3, 1) := by decide +kernel
theorem dX4_close_17 : decode cX4_close 17 = .ok (.iload 5, 2) := by decide +kernel
theorem dX4_close_19 : decode cX4_close 19 = .ok (.aaload, 1) := by decide +kernel
theorem dX4_close_20 : decode cX4_close 20 = .ok (.astore 6, 2) := by decide +kernel
theorem dX4_close_22 : decode cX4_close 22 = .ok (.aload_n 0, 1) := by decide +kernel
theorem dX4_close_23 : decode cX4_close 23 = .ok (.getfield 21, 3) := by decide +kernel
theorem dX4_close_26 : decode cX4_close 26 = .ok (.aload 6, 2) := by decide +kernel
theorem dX4_close_28 : decode cX4_close 28 = .ok (.iconst 0, 1) := by decide +kernel
theorem dX4_close_29 : decode cX4_close 29 = .ok (.iaload, 1) := by decide +kernel
theorem dX4_close_30 : decode cX4_close 30 = .ok (.aload 6, 2) := by decide +kernel
theorem dX4_close_32 : decode cX4_close 32 = .ok (.iconst 1, 1) := by decide +kernel
theorem dX4_close_33 : decode cX4_close 33 = .ok (.iaload, 1) := by decide +kernel
theorem dX4_close_34 : decode cX4_close 34 = .ok (.iastore, 1) := by decide +kernel
theorem dX4_close_35 : decode cX4_close 35 = .ok (.aload_n 0, 1) := by decide +kernel
theorem dX4_close_36 : decode cX4_close 36 = .ok (.getfield 24, 3) := by decide +kernel
theorem dX4_close_39 : decode cX4_close 39 = .ok (.aload 6, 2) := by decide +kernel
theorem dX4_close_41 : decode cX4_close 41 = .ok (.iconst 0, 1) := by decide +kernel
theorem dX4_close_42 : decode cX4_close 42 = .ok (.iaload, 1) := by decide +kernel
theorem dX4_close_43 : decode cX4_close 43 = .ok (.aload_n 0, 1) := by decide +kernel
theorem dX4_close_44 : decode cX4_close 44 = .ok (.getfield 17, 3) := by decide +kernel
theorem dX4_close_47 : decode cX4_close 47 = .ok (.arraylength, 1) := by decide +kernel
theorem dX4_close_48 : decode cX4_close 48 = .ok (.iconst 1, 1) := by decide +kernel
theorem dX4_close_49 : decode cX4_close 49 = .ok (.iadd, 1) := by decide +kernel
theorem dX4_close_50 : decode cX4_close 50 = .ok (.iastore, 1) := by decide +kernel
theorem dX4_close_51 : decode cX4_close 51 = .ok (.iinc 5 1, 3) := by decide +kernel
theorem dX4_close_54 : decode cX4_close 54 = .ok (.goto (-45), 3) := by decide +kernel
theorem dX4_close_57 : decode cX4_close 57 = .ok (.aload_n 0, 1) := by decide +kernel
theorem dX4_close_58 : decode cX4_close 58 = .ok (.aload_n 0, 1) := by decide +kernel
theorem dX4_close_59 : decode cX4_close 59 = .ok (.getfield 17, 3) := by decide +kernel
theorem dX4_close_62 : decode cX4_close 62 = .ok (.iconst 3, 1) := by decide +kernel
theorem dX4_close_63 : decode cX4_close 63 = .ok (.newarray .int, 2) := by decide +kernel
theorem dX4_close_65 : decode cX4_close 65 = .ok (.dup, 1) := by decide +kernel
theorem dX4_close_66 : decode cX4_close 66 = .ok (.iconst 0, 1) := by decide +kernel
theorem dX4_close_67 : decode cX4_close 67 = .ok (.iload_n 1, 1) := by decide +kernel
theorem dX4_close_68 : decode cX4_close 68 = .ok (.iastore, 1) := by decide +kernel
theorem dX4_close_69 : decode cX4_close 69 = .ok (.dup, 1) := by decide +kernel
theorem dX4_close_70 : decode cX4_close 70 = .ok (.iconst 1, 1) := by decide +kernel
theorem dX4_close_71 : decode cX4_close 71 = .ok (.aload_n 2, 1) := by decide +kernel
theorem dX4_close_72 : decode cX4_close 72 = .ok (.arraylength, 1) := by decide +kernel
theorem dX4_close_73 : decode cX4_close 73 = .ok (.iastore, 1) := by decide +kernel
theorem dX4_close_74 : decode cX4_close 74 = .ok (.dup, 1) := by decide +kernel
theorem dX4_close_75 : decode cX4_close 75 = .ok (.iconst 2, 1) := by decide +kernel
theorem dX4_close_76 : decode cX4_close 76 = .ok (.aload_n 0, 1) := by decide +kernel
theorem dX4_close_77 : decode cX4_close 77 = .ok (.invokevirtual 41, 3) := by decide +kernel
theorem dX4_close_80 : decode cX4_close 80 = .ok (.iastore, 1) := by decide +kernel
theorem dX4_close_81 : decode cX4_close 81 = .ok (.invokestatic 45, 3) := by decide +kernel
theorem dX4_close_84 : decode cX4_close 84 = .ok (.putfield 17, 3) := by decide +kernel
theorem dX4_close_87 : decode cX4_close 87 = .ok (.return_, 1) := by decide +kernel
theorem dX4_goesOn_0 : decode cX4_goesOn 0 = .ok (.aload_n 0, 1) := by decide +kernel
theorem dX4_goesOn_1 : decode cX4_goesOn 1 = .ok (.getfield 9, 3) := by decide +kernel
theorem dX4_goesOn_4 : decode cX4_goesOn 4 = .ok (.iload_n 1, 1) := by decide +kernel
theorem dX4_goesOn_5 : decode cX4_goesOn 5 = .ok (.aaload, 1) := by decide +kernel
theorem dX4_goesOn_6 : decode cX4_goesOn 6 = .ok (.getfield 49, 3) := by decide +kernel
theorem dX4_goesOn_9 : decode cX4_goesOn 9 = .ok (.ifCond .ne 20, 3) := by decide +kernel
theorem dX4_goesOn_12 : decode cX4_goesOn 12 = .ok (.aload_n 0, 1) := by decide +kernel
theorem dX4_goesOn_13 : decode cX4_goesOn 13 = .ok (.getfield 9, 3) := by decide +kernel
theorem dX4_goesOn_16 : decode cX4_goesOn 16 = .ok (.iload_n 1, 1) := by decide +kernel
theorem dX4_goesOn_17 : decode cX4_goesOn 17 = .ok (.aaload, 1) := by decide +kernel
theorem dX4_goesOn_18 : decode cX4_goesOn 18 = .ok (.getfield 53, 3) := by decide +kernel
theorem dX4_goesOn_21 : decode cX4_goesOn 21 = .ok (.arraylength, 1) := by decide +kernel
theorem dX4_goesOn_22 : decode cX4_goesOn 22 = .ok (.ifCond .le 7, 3) := by decide +kernel
theorem dX4_goesOn_25 : decode cX4_goesOn 25 = .ok (.iconst 1, 1) := by decide +kernel
theorem dX4_goesOn_26 : decode cX4_goesOn 26 = .ok (.goto 4, 3) := by decide +kernel
theorem dX4_goesOn_29 : decode cX4_goesOn 29 = .ok (.iconst 0, 1) := by decide +kernel
theorem dX4_goesOn_30 : decode cX4_goesOn 30 = .ok (.ireturn, 1) := by decide +kernel
theorem dX4_turn_0 : decode cX4_turn 0 = .ok (.aload_n 0, 1) := by decide +kernel
theorem dX4_turn_1 : decode cX4_turn 1 = .ok (.getfield 9, 3) := by decide +kernel
theorem dX4_turn_4 : decode cX4_turn 4 = .ok (.iload_n 1, 1) := by decide +kernel
theorem dX4_turn_5 : decode cX4_turn 5 = .ok (.aaload, 1) := by decide +kernel
theorem dX4_turn_6 : decode cX4_turn 6 = .ok (.astore_n 2, 1) := by decide +kernel
theorem dX4_turn_7 : decode cX4_turn 7 = .ok (.aload_n 2, 1) := by decide +kernel
theorem dX4_turn_8 : decode cX4_turn 8 = .ok (.getfield 56, 3) := by decide +kernel
theorem dX4_turn_11 : decode cX4_turn 11 = .ok (.aload_n 2, 1) := by decide +kernel
theorem dX4_turn_12 : decode cX4_turn 12 = .ok (.getfield 53, 3) := by decide +kernel
theorem dX4_turn_15 : decode cX4_turn 15 = .ok (.arraylength, 1) := by decide +kernel
theorem dX4_turn_16 : decode cX4_turn 16 = .ok (.if_icmp .ge 29, 3) := by decide +kernel
theorem dX4_turn_19 : decode cX4_turn 19 = .ok (.aload_n 2, 1) := by decide +kernel
theorem dX4_turn_20 : decode cX4_turn 20 = .ok (.aload_n 0, 1) := by decide +kernel
theorem dX4_turn_21 : decode cX4_turn 21 = .ok (.aload_n 2, 1) := by decide +kernel
theorem dX4_turn_22 : decode cX4_turn 22 = .ok (.getfield 53, 3) := by decide +kernel
theorem dX4_turn_25 : decode cX4_turn 25 = .ok (.aload_n 2, 1) := by decide +kernel
theorem dX4_turn_26 : decode cX4_turn 26 = .ok (.getfield 56, 3) := by decide +kernel
theorem dX4_turn_29 : decode cX4_turn 29 = .ok (.aaload, 1) := by decide +kernel
theorem dX4_turn_30 : decode cX4_turn 30 = .ok (.invokevirtual 60, 3) := by decide +kernel
theorem dX4_turn_33 : decode cX4_turn 33 = .ok (.aload_n 2, 1) := by decide +kernel
theorem dX4_turn_34 : decode cX4_turn 34 = .ok (.dup, 1) := by decide +kernel
theorem dX4_turn_35 : decode cX4_turn 35 = .ok (.getfield 56, 3) := by decide +kernel
theorem dX4_turn_38 : decode cX4_turn 38 = .ok (.iconst 1, 1) := by decide +kernel
theorem dX4_turn_39 : decode cX4_turn 39 = .ok (.iadd, 1) := by decide +kernel
theorem dX4_turn_40 : decode cX4_turn 40 = .ok (.putfield 56, 3) := by decide +kernel
theorem dX4_turn_43 : decode cX4_turn 43 = .ok (.iconst 0, 1) := by decide +kernel
theorem dX4_turn_44 : decode cX4_turn 44 = .ok (.ireturn, 1) := by decide +kernel
theorem dX4_turn_45 : decode cX4_turn 45 = .ok (.aload_n 2, 1) := by decide +kernel
theorem dX4_turn_46 : decode cX4_turn 46 = .ok (.aload_n 0, 1) := by decide +kernel
theorem dX4_turn_47 : decode cX4_turn 47 = .ok (.invokevirtual 64, 3) := by decide +kernel
theorem dX4_turn_50 : decode cX4_turn 50 = .ok (.ifCond .eq 19, 3) := by decide +kernel
theorem dX4_turn_53 : decode cX4_turn 53 = .ok (.aload_n 2, 1) := by decide +kernel
theorem dX4_turn_54 : decode cX4_turn 54 = .ok (.invokevirtual 68, 3) := by decide +kernel
theorem dX4_turn_57 : decode cX4_turn 57 = .ok (.aload_n 2, 1) := by decide +kernel
theorem dX4_turn_58 : decode cX4_turn 58 = .ok (.dup, 1) := by decide +kernel
theorem dX4_turn_59 : decode cX4_turn 59 = .ok (.getfield 71, 3) := by decide +kernel
theorem dX4_turn_62 : decode cX4_turn 62 = .ok (.iconst 1, 1) := by decide +kernel
theorem dX4_turn_63 : decode cX4_turn 63 = .ok (.iadd, 1) := by decide +kernel
theorem dX4_turn_64 : decode cX4_turn 64 = .ok (.putfield 71, 3) := by decide +kernel
theorem dX4_turn_67 : decode cX4_turn 67 = .ok (.iconst 2, 1) := by decide +kernel
theorem dX4_turn_68 : decode cX4_turn 68 = .ok (.ireturn, 1) := by decide +kernel
theorem dX4_turn_69 : decode cX4_turn 69 = .ok (.aload_n 0, 1) := by decide +kernel
theorem dX4_turn_70 : decode cX4_turn 70 = .ok (.iload_n 1, 1) := by decide +kernel
theorem dX4_turn_71 : decode cX4_turn 71 = .ok (.aload_n 2, 1) := by decide +kernel
theorem dX4_turn_72 : decode cX4_turn 72 = .ok (.getfield 74, 3) := by decide +kernel
theorem dX4_turn_75 : decode cX4_turn 75 = .ok (.invokevirtual 77, 3) := by decide +kernel
theorem dX4_turn_78 : decode cX4_turn 78 = .ok (.aload_n 2, 1) := by decide +kernel
theorem dX4_turn_79 : decode cX4_turn 79 = .ok (.iconst 1, 1) := by decide +kernel
theorem dX4_turn_80 : decode cX4_turn 80 = .ok (.putfield 49, 3) := by decide +kernel
theorem dX4_turn_83 : decode cX4_turn 83 = .ok (.iconst 1, 1) := by decide +kernel
theorem dX4_turn_84 : decode cX4_turn 84 = .ok (.ireturn, 1) := by decide +kernel
theorem dX4_round_0 : decode cX4_round 0 = .ok (.iconst 0, 1) := by decide +kernel
theorem dX4_round_1 : decode cX4_round 1 = .ok (.istore_n 1, 1) := by decide +kernel
theorem dX4_round_2 : decode cX4_round 2 = .ok (.iconst 0, 1) := by decide +kernel
theorem dX4_round_3 : decode cX4_round 3 = .ok (.istore_n 2, 1) := by decide +kernel
theorem dX4_round_4 : decode cX4_round 4 = .ok (.iload_n 2, 1) := by decide +kernel
theorem dX4_round_5 : decode cX4_round 5 = .ok (.aload_n 0, 1) := by decide +kernel
theorem dX4_round_6 : decode cX4_round 6 = .ok (.getfield 9, 3) := by decide +kernel
theorem dX4_round_9 : decode cX4_round 9 = .ok (.arraylength, 1) := by decide +kernel
theorem dX4_round_10 : decode cX4_round 10 = .ok (.if_icmp .ge 29, 3) := by decide +kernel
theorem dX4_round_13 : decode cX4_round 13 = .ok (.aload_n 0, 1) := by decide +kernel
theorem dX4_round_14 : decode cX4_round 14 = .ok (.iload_n 2, 1) := by decide +kernel
theorem dX4_round_15 : decode cX4_round 15 = .ok (.invokevirtual 81, 3) := by decide +kernel
theorem dX4_round_18 : decode cX4_round 18 = .ok (.ifCond .eq 15, 3) := by decide +kernel
theorem dX4_round_21 : decode cX4_round 21 = .ok (.aload_n 0, 1) := by decide +kernel
theorem dX4_round_22 : decode cX4_round 22 = .ok (.iload_n 2, 1) := by decide +kernel
theorem dX4_round_23 : decode cX4_round 23 = .ok (.invokevirtual 85, 3) := by decide +kernel
theorem dX4_round_26 : decode cX4_round 26 = .ok (.iconst 1, 1) := by decide +kernel
theorem dX4_round_27 : decode cX4_round 27 = .ok (.if_icmp .ne 6, 3) := by decide +kernel
theorem dX4_round_30 : decode cX4_round 30 = .ok (.iinc 1 1, 3) := by decide +kernel
theorem dX4_round_33 : decode cX4_round 33 = .ok (.iinc 2 1, 3) := by decide +kernel
theorem dX4_round_36 : decode cX4_round 36 = .ok (.goto (-32), 3) := by decide +kernel
theorem dX4_round_39 : decode cX4_round 39 = .ok (.iload_n 1, 1) := by decide +kernel
theorem dX4_round_40 : decode cX4_round 40 = .ok (.ireturn, 1) := by decide +kernel
theorem dX4_clash_0 : decode cX4_clash 0 = .ok (.iload_n 1, 1) := by decide +kernel
theorem dX4_clash_1 : decode cX4_clash 1 = .ok (.iload_n 2, 1) := by decide +kernel
theorem dX4_clash_2 : decode cX4_clash 2 = .ok (.if_icmp .eq 27, 3) := by decide +kernel
theorem dX4_clash_5 : decode cX4_clash 5 = .ok (.aload_n 0, 1) := by decide +kernel
theorem dX4_clash_6 : decode cX4_clash 6 = .ok (.getfield 9, 3) := by decide +kernel
theorem dX4_clash_9 : decode cX4_clash 9 = .ok (.iload_n 1, 1) := by decide +kernel
theorem dX4_clash_10 : decode cX4_clash 10 = .ok (.aaload, 1) := by decide +kernel
theorem dX4_clash_11 : decode cX4_clash 11 = .ok (.getfield 49, 3) := by decide +kernel
theorem dX4_clash_14 : decode cX4_clash 14 = .ok (.ifCond .ne 15, 3) := by decide +kernel
theorem dX4_clash_17 : decode cX4_clash 17 = .ok (.aload_n 0, 1) := by decide +kernel
theorem dX4_clash_18 : decode cX4_clash 18 = .ok (.getfield 9, 3) := by decide +kernel
theorem dX4_clash_21 : decode cX4_clash 21 = .ok (.iload_n 2, 1) := by decide +kernel
theorem dX4_clash_22 : decode cX4_clash 22 = .ok (.aaload, 1) := by decide +kernel
theorem dX4_clash_23 : decode cX4_clash 23 = .ok (.getfield 49, 3) := by decide +kernel
theorem dX4_clash_26 : decode cX4_clash 26 = .ok (.ifCond .eq 5, 3) := by decide +kernel
theorem dX4_clash_29 : decode cX4_clash 29 = .ok (.iconst 0, 1) := by decide +kernel
theorem dX4_clash_30 : decode cX4_clash 30 = .ok (.ireturn, 1) := by decide +kernel
theorem dX4_clash_31 : decode cX4_clash 31 = .ok (.aload_n 0, 1) := by decide +kernel
theorem dX4_clash_32 : decode cX4_clash 32 = .ok (.getfield 9, 3) := by decide +kernel
theorem dX4_clash_35 : decode cX4_clash 35 = .ok (.iload_n 1, 1) := by decide +kernel
theorem dX4_clash_36 : decode cX4_clash 36 = .ok (.aaload, 1) := by decide +kernel
theorem dX4_clash_37 : decode cX4_clash 37 = .ok (.getfield 74, 3) := by decide +kernel
theorem dX4_clash_40 : decode cX4_clash 40 = .ok (.astore_n 3, 1) := by decide +kernel
theorem dX4_clash_41 : decode cX4_clash 41 = .ok (.aload_n 3, 1) := by decide +kernel
theorem dX4_clash_42 : decode cX4_clash 42 = .ok (.arraylength, 1) := by decide +kernel
theorem dX4_clash_43 : decode cX4_clash 43 = .ok (.istore 4, 2) := by decide +kernel
theorem dX4_clash_45 : decode cX4_clash 45 = .ok (.iconst 0, 1) := by decide +kernel
theorem dX4_clash_46 : decode cX4_clash 46 = .ok (.istore 5, 2) := by decide +kernel
theorem dX4_clash_48 : decode cX4_clash 48 = .ok (.iload 5, 2) := by decide +kernel
theorem dX4_clash_50 : decode cX4_clash 50 = .ok (.iload 4, 2) := by decide +kernel
theorem dX4_clash_52 : decode cX4_clash 52 = .ok (.if_icmp .ge 36, 3) := by decide +kernel
theorem dX4_clash_55 : decode cX4_clash 55 = .ok (.aload_n 3, 1) := by decide +kernel
theorem dX4_clash_56 : decode cX4_clash 56 = .ok (.iload 5, 2) := by decide +kernel
theorem dX4_clash_58 : decode cX4_clash 58 = .ok (.aaload, 1) := by decide +kernel
theorem dX4_clash_59 : decode cX4_clash 59 = .ok (.astore 6, 2) := by decide +kernel
theorem dX4_clash_61 : decode cX4_clash 61 = .ok (.aload_n 0, 1) := by decide +kernel
theorem dX4_clash_62 : decode cX4_clash 62 = .ok (.getfield 9, 3) := by decide +kernel
theorem dX4_clash_65 : decode cX4_clash 65 = .ok (.iload_n 2, 1) := by decide +kernel
theorem dX4_clash_66 : decode cX4_clash 66 = .ok (.aaload, 1) := by decide +kernel
theorem dX4_clash_67 : decode cX4_clash 67 = .ok (.getfield 89, 3) := by decide +kernel
theorem dX4_clash_70 : decode cX4_clash 70 = .ok (.aload 6, 2) := by decide +kernel
theorem dX4_clash_72 : decode cX4_clash 72 = .ok (.iconst 0, 1) := by decide +kernel
theorem dX4_clash_73 : decode cX4_clash 73 = .ok (.iaload, 1) := by decide +kernel
theorem dX4_clash_74 : decode cX4_clash 74 = .ok (.invokestatic 92, 3) := by decide +kernel
theorem dX4_clash_77 : decode cX4_clash 77 = .ok (.ifnull 5, 3) := by decide +kernel
theorem dX4_clash_80 : decode cX4_clash 80 = .ok (.iconst 1, 1) := by decide +kernel
theorem dX4_clash_81 : decode cX4_clash 81 = .ok (.ireturn, 1) := by decide +kernel
theorem dX4_clash_82 : decode cX4_clash 82 = .ok (.iinc 5 1, 3) := by decide +kernel
theorem dX4_clash_85 : decode cX4_clash 85 = .ok (.goto (-37), 3) := by decide +kernel
theorem dX4_clash_88 : decode cX4_clash 88 = .ok (.iconst 0, 1) := by decide +kernel
theorem dX4_clash_89 : decode cX4_clash 89 = .ok (.ireturn, 1) := by decide +kernel
theorem dX4_counted_0 : decode cX4_counted 0 = .ok (.bipush 7, 2) := by decide +kernel
theorem dX4_counted_2 : decode cX4_counted 2 = .ok (.newarray .int, 2) := by decide +kernel
theorem dX4_counted_4 : decode cX4_counted 4 = .ok (.dup, 1) := by decide +kernel
theorem dX4_counted_5 : decode cX4_counted 5 = .ok (.iconst 0, 1) := by decide +kernel
theorem dX4_counted_6 : decode cX4_counted 6 = .ok (.aload_n 0, 1) := by decide +kernel
theorem dX4_counted_7 : decode cX4_counted 7 = .ok (.getfield 21, 3) := by decide +kernel
theorem dX4_counted_10 : decode cX4_counted 10 = .ok (.arraylength, 1) := by decide +kernel
theorem dX4_counted_11 : decode cX4_counted 11 = .ok (.iastore, 1) := by decide +kernel
theorem dX4_counted_12 : decode cX4_counted 12 = .ok (.dup, 1) := by decide +kernel
theorem dX4_counted_13 : decode cX4_counted 13 = .ok (.iconst 1, 1) := by decide +kernel
theorem dX4_counted_14 : decode cX4_counted 14 = .ok (.aload_n 0, 1) := by decide +kernel
theorem dX4_counted_15 : decode cX4_counted 15 = .ok (.getfield 9, 3) := by decide +kernel
theorem dX4_counted_18 : decode cX4_counted 18 = .ok (.arraylength, 1) := by decide +kernel
theorem dX4_counted_19 : decode cX4_counted 19 = .ok (.iastore, 1) := by decide +kernel
theorem dX4_counted_20 : decode cX4_counted 20 = .ok (.dup, 1) := by decide +kernel
theorem dX4_counted_21 : decode cX4_counted 21 = .ok (.iconst 2, 1) := by decide +kernel
theorem dX4_counted_22 : decode cX4_counted 22 = .ok (.iconst 0, 1) := by decide +kernel
theorem dX4_counted_23 : decode cX4_counted 23 = .ok (.iastore, 1) := by decide +kernel
theorem dX4_counted_24 : decode cX4_counted 24 = .ok (.dup, 1) := by decide +kernel
theorem dX4_counted_25 : decode cX4_counted 25 = .ok (.iconst 3, 1) := by decide +kernel
theorem dX4_counted_26 : decode cX4_counted 26 = .ok (.aload_n 0, 1) := by decide +kernel
theorem dX4_counted_27 : decode cX4_counted 27 = .ok (.getfield 17, 3) := by decide +kernel
theorem dX4_counted_30 : decode cX4_counted 30 = .ok (.arraylength, 1) := by decide +kernel
theorem dX4_counted_31 : decode cX4_counted 31 = .ok (.iastore, 1) := by decide +kernel
theorem dX4_counted_32 : decode cX4_counted 32 = .ok (.dup, 1) := by decide +kernel
theorem dX4_counted_33 : decode cX4_counted 33 = .ok (.iconst 4, 1) := by decide +kernel
theorem dX4_counted_34 : decode cX4_counted 34 = .ok (.iconst 0, 1) := by decide +kernel
theorem dX4_counted_35 : decode cX4_counted 35 = .ok (.iastore, 1) := by decide +kernel
theorem dX4_counted_36 : decode cX4_counted 36 = .ok (.dup, 1) := by decide +kernel
theorem dX4_counted_37 : decode cX4_counted 37 = .ok (.iconst 5, 1) := by decide +kernel
theorem dX4_counted_38 : decode cX4_counted 38 = .ok (.aload_n 0, 1) := by decide +kernel
theorem dX4_counted_39 : decode cX4_counted 39 = .ok (.invokevirtual 41, 3) := by decide +kernel
theorem dX4_counted_42 : decode cX4_counted 42 = .ok (.iastore, 1) := by decide +kernel
theorem dX4_counted_43 : decode cX4_counted 43 = .ok (.dup, 1) := by decide +kernel
theorem dX4_counted_44 : decode cX4_counted 44 = .ok (.bipush 6, 2) := by decide +kernel
theorem dX4_counted_46 : decode cX4_counted 46 = .ok (.iconst 0, 1) := by decide +kernel
theorem dX4_counted_47 : decode cX4_counted 47 = .ok (.iastore, 1) := by decide +kernel
theorem dX4_counted_48 : decode cX4_counted 48 = .ok (.astore_n 2, 1) := by decide +kernel
theorem dX4_counted_49 : decode cX4_counted 49 = .ok (.aload_n 0, 1) := by decide +kernel
theorem dX4_counted_50 : decode cX4_counted 50 = .ok (.getfield 9, 3) := by decide +kernel
theorem dX4_counted_53 : decode cX4_counted 53 = .ok (.astore_n 3, 1) := by decide +kernel
theorem dX4_counted_54 : decode cX4_counted 54 = .ok (.aload_n 3, 1) := by decide +kernel
theorem dX4_counted_55 : decode cX4_counted 55 = .ok (.arraylength, 1) := by decide +kernel
theorem dX4_counted_56 : decode cX4_counted 56 = .ok (.istore 4, 2) := by decide +kernel
theorem dX4_counted_58 : decode cX4_counted 58 = .ok (.iconst 0, 1) := by decide +kernel
theorem dX4_counted_59 : decode cX4_counted 59 = .ok (.istore 5, 2) := by decide +kernel
theorem dX4_counted_61 : decode cX4_counted 61 = .ok (.iload 5, 2) := by decide +kernel
theorem dX4_counted_63 : decode cX4_counted 63 = .ok (.iload 4, 2) := by decide +kernel
theorem dX4_counted_65 : decode cX4_counted 65 = .ok (.if_icmp .ge 74, 3) := by decide +kernel
theorem dX4_counted_68 : decode cX4_counted 68 = .ok (.aload_n 3, 1) := by decide +kernel
theorem dX4_counted_69 : decode cX4_counted 69 = .ok (.iload 5, 2) := by decide +kernel
theorem dX4_counted_71 : decode cX4_counted 71 = .ok (.aaload, 1) := by decide +kernel
theorem dX4_counted_72 : decode cX4_counted 72 = .ok (.astore 6, 2) := by decide +kernel
theorem dX4_counted_74 : decode cX4_counted 74 = .ok (.aload_n 2, 1) := by decide +kernel
theorem dX4_counted_75 : decode cX4_counted 75 = .ok (.iconst 2, 1) := by decide +kernel
theorem dX4_counted_76 : decode cX4_counted 76 = .ok (.dup2, 1) := by decide +kernel
theorem dX4_counted_77 : decode cX4_counted 77 = .ok (.iaload, 1) := by decide +kernel
theorem dX4_counted_78 : decode cX4_counted 78 = .ok (.aload 6, 2) := by decide +kernel
theorem dX4_counted_80 : decode cX4_counted 80 = .ok (.getfield 49, 3) := by decide +kernel
theorem dX4_counted_83 : decode cX4_counted 83 = .ok (.ifCond .eq 7, 3) := by decide +kernel
theorem dX4_counted_86 : decode cX4_counted 86 = .ok (.iconst 1, 1) := by decide +kernel
theorem dX4_counted_87 : decode cX4_counted 87 = .ok (.goto 4, 3) := by decide +kernel
theorem dX4_counted_90 : decode cX4_counted 90 = .ok (.iconst 0, 1) := by decide +kernel
theorem dX4_counted_91 : decode cX4_counted 91 = .ok (.iadd, 1) := by decide +kernel
theorem dX4_counted_92 : decode cX4_counted 92 = .ok (.iastore, 1) := by decide +kernel
theorem dX4_counted_93 : decode cX4_counted 93 = .ok (.aload_n 2, 1) := by decide +kernel
theorem dX4_counted_94 : decode cX4_counted 94 = .ok (.iconst 4, 1) := by decide +kernel
theorem dX4_counted_95 : decode cX4_counted 95 = .ok (.dup2, 1) := by decide +kernel
theorem dX4_counted_96 : decode cX4_counted 96 = .ok (.iaload, 1) := by decide +kernel
theorem dX4_counted_97 : decode cX4_counted 97 = .ok (.aload 6, 2) := by decide +kernel
theorem dX4_counted_99 : decode cX4_counted 99 = .ok (.getfield 71, 3) := by decide +kernel
theorem dX4_counted_102 : decode cX4_counted 102 = .ok (.iadd, 1) := by decide +kernel
theorem dX4_counted_103 : decode cX4_counted 103 = .ok (.iastore, 1) := by decide +kernel
theorem dX4_counted_104 : decode cX4_counted 104 = .ok (.aload_n 2, 1) := by decide +kernel
theorem dX4_counted_105 : decode cX4_counted 105 = .ok (.bipush 6, 2) := by decide +kernel
theorem dX4_counted_107 : decode cX4_counted 107 = .ok (.dup2, 1) := by decide +kernel
theorem dX4_counted_108 : decode cX4_counted 108 = .ok (.iaload, 1) := by decide +kernel
theorem dX4_counted_109 : decode cX4_counted 109 = .ok (.aload 6, 2) := by decide +kernel
theorem dX4_counted_111 : decode cX4_counted 111 = .ok (.getfield 49, 3) := by decide +kernel
theorem dX4_counted_114 : decode cX4_counted 114 = .ok (.ifCond .ne 16, 3) := by decide +kernel
theorem dX4_counted_117 : decode cX4_counted 117 = .ok (.aload 6, 2) := by decide +kernel
theorem dX4_counted_119 : decode cX4_counted 119 = .ok (.aload_n 0, 1) := by decide +kernel
theorem dX4_counted_120 : decode cX4_counted 120 = .ok (.invokevirtual 64, 3) := by decide +kernel
theorem dX4_counted_123 : decode cX4_counted 123 = .ok (.ifCond .eq 7, 3) := by decide +kernel
theorem dX4_counted_126 : decode cX4_counted 126 = .ok (.iconst 1, 1) := by decide +kernel
theorem dX4_counted_127 : decode cX4_counted 127 = .ok (.goto 4, 3) := by decide +kernel
theorem dX4_counted_130 : decode cX4_counted 130 = .ok (.iconst 0, 1) := by decide +kernel
theorem dX4_counted_131 : decode cX4_counted 131 = .ok (.iadd, 1) := by decide +kernel
theorem dX4_counted_132 : decode cX4_counted 132 = .ok (.iastore, 1) := by decide +kernel
theorem dX4_counted_133 : decode cX4_counted 133 = .ok (.iinc 5 1, 3) := by decide +kernel
theorem dX4_counted_136 : decode cX4_counted 136 = .ok (.goto (-75), 3) := by decide +kernel
theorem dX4_counted_139 : decode cX4_counted 139 = .ok (.aload_n 2, 1) := by decide +kernel
theorem dX4_counted_140 : decode cX4_counted 140 = .ok (.iload_n 1, 1) := by decide +kernel
theorem dX4_counted_141 : decode cX4_counted 141 = .ok (.iaload, 1) := by decide +kernel
theorem dX4_counted_142 : decode cX4_counted 142 = .ok (.ireturn, 1) := by decide +kernel
theorem dX4_isSame_0 : decode cX4_isSame 0 = .ok (.iconst 0, 1) := by decide +kernel
theorem dX4_isSame_1 : decode cX4_isSame 1 = .ok (.istore_n 2, 1) := by decide +kernel
theorem dX4_isSame_2 : decode cX4_isSame 2 = .ok (.iload_n 2, 1) := by decide +kernel
theorem dX4_isSame_3 : decode cX4_isSame 3 = .ok (.bipush 7, 2) := by decide +kernel
theorem dX4_isSame_5 : decode cX4_isSame 5 = .ok (.if_icmp .ge 24, 3) := by decide +kernel
theorem dX4_isSame_8 : decode cX4_isSame 8 = .ok (.aload_n 1, 1) := by decide +kernel
theorem dX4_isSame_9 : decode cX4_isSame 9 = .ok (.iload_n 2, 1) := by decide +kernel
theorem dX4_isSame_10 : decode cX4_isSame 10 = .ok (.invokevirtual 96, 3) := by decide +kernel
theorem dX4_isSame_13 : decode cX4_isSame 13 = .ok (.aload_n 0, 1) := by decide +kernel
theorem dX4_isSame_14 : decode cX4_isSame 14 = .ok (.iload_n 2, 1) := by decide +kernel
theorem dX4_isSame_15 : decode cX4_isSame 15 = .ok (.invokevirtual 101, 3) := by decide +kernel
theorem dX4_isSame_18 : decode cX4_isSame 18 = .ok (.if_icmp .eq 5, 3) := by decide +kernel
theorem dX4_isSame_21 : decode cX4_isSame 21 = .ok (.iconst 0, 1) := by decide +kernel
theorem dX4_isSame_22 : decode cX4_isSame 22 = .ok (.ireturn, 1) := by decide +kernel
theorem dX4_isSame_23 : decode cX4_isSame 23 = .ok (.iinc 2 1, 3) := by decide +kernel
theorem dX4_isSame_26 : decode cX4_isSame 26 = .ok (.goto (-24), 3) := by decide +kernel
theorem dX4_isSame_29 : decode cX4_isSame 29 = .ok (.iconst 0, 1) := by decide +kernel
theorem dX4_isSame_30 : decode cX4_isSame 30 = .ok (.istore_n 2, 1) := by decide +kernel
theorem dX4_isSame_31 : decode cX4_isSame 31 = .ok (.iload_n 2, 1) := by decide +kernel
theorem dX4_isSame_32 : decode cX4_isSame 32 = .ok (.aload_n 0, 1) := by decide +kernel
theorem dX4_isSame_33 : decode cX4_isSame 33 = .ok (.getfield 21, 3) := by decide +kernel
theorem dX4_isSame_36 : decode cX4_isSame 36 = .ok (.arraylength, 1) := by decide +kernel
theorem dX4_isSame_37 : decode cX4_isSame 37 = .ok (.if_icmp .ge 159, 3) := by decide +kernel
theorem dX4_isSame_40 : decode cX4_isSame 40 = .ok (.iconst 0, 1) := by decide +kernel
theorem dX4_isSame_41 : decode cX4_isSame 41 = .ok (.istore_n 3, 1) := by decide +kernel
theorem dX4_isSame_42 : decode cX4_isSame 42 = .ok (.iconst 0, 1) := by decide +kernel
theorem dX4_isSame_43 : decode cX4_isSame 43 = .ok (.istore 4, 2) := by decide +kernel
theorem dX4_isSame_45 : decode cX4_isSame 45 = .ok (.aload_n 0, 1) := by decide +kernel
theorem dX4_isSame_46 : decode cX4_isSame 46 = .ok (.getfield 9, 3) := by decide +kernel
theorem dX4_isSame_49 : decode cX4_isSame 49 = .ok (.astore 5, 2) := by decide +kernel
theorem dX4_isSame_51 : decode cX4_isSame 51 = .ok (.aload 5, 2) := by decide +kernel
theorem dX4_isSame_53 : decode cX4_isSame 53 = .ok (.arraylength, 1) := by decide +kernel
theorem dX4_isSame_54 : decode cX4_isSame 54 = .ok (.istore 6, 2) := by decide +kernel
theorem dX4_isSame_56 : decode cX4_isSame 56 = .ok (.iconst 0, 1) := by decide +kernel
theorem dX4_isSame_57 : decode cX4_isSame 57 = .ok (.istore 7, 2) := by decide +kernel
theorem dX4_isSame_59 : decode cX4_isSame 59 = .ok (.iload 7, 2) := by decide +kernel
theorem dX4_isSame_61 : decode cX4_isSame 61 = .ok (.iload 6, 2) := by decide +kernel
theorem dX4_isSame_63 : decode cX4_isSame 63 = .ok (.if_icmp .ge 74, 3) := by decide +kernel
theorem dX4_isSame_66 : decode cX4_isSame 66 = .ok (.aload 5, 2) := by decide +kernel
theorem dX4_isSame_68 : decode cX4_isSame 68 = .ok (.iload 7, 2) := by decide +kernel
theorem dX4_isSame_70 : decode cX4_isSame 70 = .ok (.aaload, 1) := by decide +kernel
theorem dX4_isSame_71 : decode cX4_isSame 71 = .ok (.astore 8, 2) := by decide +kernel
theorem dX4_isSame_73 : decode cX4_isSame 73 = .ok (.iload_n 3, 1) := by decide +kernel
theorem dX4_isSame_74 : decode cX4_isSame 74 = .ok (.aload 8, 2) := by decide +kernel
theorem dX4_isSame_76 : decode cX4_isSame 76 = .ok (.getfield 49, 3) := by decide +kernel
theorem dX4_isSame_79 : decode cX4_isSame 79 = .ok (.ifCond .ne 19, 3) := by decide +kernel
theorem dX4_isSame_82 : decode cX4_isSame 82 = .ok (.aload 8, 2) := by decide +kernel
theorem dX4_isSame_84 : decode cX4_isSame 84 = .ok (.getfield 89, 3) := by decide +kernel
theorem dX4_isSame_87 : decode cX4_isSame 87 = .ok (.iload_n 2, 1) := by decide +kernel
theorem dX4_isSame_88 : decode cX4_isSame 88 = .ok (.invokestatic 92, 3) := by decide +kernel
theorem dX4_isSame_91 : decode cX4_isSame 91 = .ok (.ifnull 7, 3) := by decide +kernel
theorem dX4_isSame_94 : decode cX4_isSame 94 = .ok (.iconst 1, 1) := by decide +kernel
theorem dX4_isSame_95 : decode cX4_isSame 95 = .ok (.goto 4, 3) := by decide +kernel
theorem dX4_isSame_98 : decode cX4_isSame 98 = .ok (.iconst 0, 1) := by decide +kernel
theorem dX4_isSame_99 : decode cX4_isSame 99 = .ok (.iadd, 1) := by decide +kernel
theorem dX4_isSame_100 : decode cX4_isSame 100 = .ok (.istore_n 3, 1) := by decide +kernel
theorem dX4_isSame_101 : decode cX4_isSame 101 = .ok (.iload 4, 2) := by decide +kernel
theorem dX4_isSame_103 : decode cX4_isSame 103 = .ok (.aload 8, 2) := by decide +kernel
theorem dX4_isSame_105 : decode cX4_isSame 105 = .ok (.getfield 49, 3) := by decide +kernel
theorem dX4_isSame_108 : decode cX4_isSame 108 = .ok (.ifCond .ne 19, 3) := by decide +kernel
theorem dX4_isSame_111 : decode cX4_isSame 111 = .ok (.aload 8, 2) := by decide +kernel
theorem dX4_isSame_113 : decode cX4_isSame 113 = .ok (.getfield 74, 3) := by decide +kernel
theorem dX4_isSame_116 : decode cX4_isSame 116 = .ok (.iload_n 2, 1) := by decide +kernel
theorem dX4_isSame_117 : decode cX4_isSame 117 = .ok (.invokestatic 92, 3) := by decide +kernel
theorem dX4_isSame_120 : decode cX4_isSame 120 = .ok (.ifnull 7, 3) := by decide +kernel
theorem dX4_isSame_123 : decode cX4_isSame 123 = .ok (.iconst 1, 1) := by decide +kernel
theorem dX4_isSame_124 : decode cX4_isSame 124 = .ok (.goto 4, 3) := by decide +kernel
theorem dX4_isSame_127 : decode cX4_isSame 127 = .ok (.iconst 0, 1) := by decide +kernel
theorem dX4_isSame_128 : decode cX4_isSame 128 = .ok (.iadd, 1) := by decide +kernel
theorem dX4_isSame_129 : decode cX4_isSame 129 = .ok (.istore 4, 2) := by decide +kernel
theorem dX4_isSame_131 : decode cX4_isSame 131 = .ok (.iinc 7 1, 3) := by decide +kernel
theorem dX4_isSame_134 : decode cX4_isSame 134 = .ok (.goto (-75), 3) := by decide +kernel
theorem dX4_isSame_137 : decode cX4_isSame 137 = .ok (.aload_n 1, 1) := by decide +kernel
theorem dX4_isSame_138 : decode cX4_isSame 138 = .ok (.iload_n 2, 1) := by decide +kernel
theorem dX4_isSame_139 : decode cX4_isSame 139 = .ok (.iconst 0, 1) := by decide +kernel
theorem dX4_isSame_140 : decode cX4_isSame 140 = .ok (.invokevirtual 104, 3) := by decide +kernel
theorem dX4_isSame_143 : decode cX4_isSame 143 = .ok (.aload_n 0, 1) := by decide +kernel
theorem dX4_isSame_144 : decode cX4_isSame 144 = .ok (.getfield 21, 3) := by decide +kernel
theorem dX4_isSame_147 : decode cX4_isSame 147 = .ok (.iload_n 2, 1) := by decide +kernel
theorem dX4_isSame_148 : decode cX4_isSame 148 = .ok (.iaload, 1) := by decide +kernel
theorem dX4_isSame_149 : decode cX4_isSame 149 = .ok (.if_icmp .ne 39, 3) := by decide +kernel
theorem dX4_isSame_152 : decode cX4_isSame 152 = .ok (.aload_n 1, 1) := by decide +kernel
theorem dX4_isSame_153 : decode cX4_isSame 153 = .ok (.iload_n 2, 1) := by decide +kernel
theorem dX4_isSame_154 : decode cX4_isSame 154 = .ok (.iconst 1, 1) := by decide +kernel
theorem dX4_isSame_155 : decode cX4_isSame 155 = .ok (.invokevirtual 104, 3) := by decide +kernel
theorem dX4_isSame_158 : decode cX4_isSame 158 = .ok (.aload_n 0, 1) := by decide +kernel
theorem dX4_isSame_159 : decode cX4_isSame 159 = .ok (.getfield 24, 3) := by decide +kernel
theorem dX4_isSame_162 : decode cX4_isSame 162 = .ok (.iload_n 2, 1) := by decide +kernel
theorem dX4_isSame_163 : decode cX4_isSame 163 = .ok (.iaload, 1) := by decide +kernel
theorem dX4_isSame_164 : decode cX4_isSame 164 = .ok (.if_icmp .ne 24, 3) := by decide +kernel
theorem dX4_isSame_167 : decode cX4_isSame 167 = .ok (.aload_n 1, 1) := by decide +kernel
theorem dX4_isSame_168 : decode cX4_isSame 168 = .ok (.iload_n 2, 1) := by decide +kernel
theorem dX4_isSame_169 : decode cX4_isSame 169 = .ok (.iconst 2, 1) := by decide +kernel
theorem dX4_isSame_170 : decode cX4_isSame 170 = .ok (.invokevirtual 104, 3) := by decide +kernel
theorem dX4_isSame_173 : decode cX4_isSame 173 = .ok (.iload_n 3, 1) := by decide +kernel
theorem dX4_isSame_174 : decode cX4_isSame 174 = .ok (.if_icmp .ne 14, 3) := by decide +kernel
theorem dX4_isSame_177 : decode cX4_isSame 177 = .ok (.aload_n 1, 1) := by decide +kernel
theorem dX4_isSame_178 : decode cX4_isSame 178 = .ok (.iload_n 2, 1) := by decide +kernel
theorem dX4_isSame_179 : decode cX4_isSame 179 = .ok (.iconst 3, 1) := by decide +kernel
theorem dX4_isSame_180 : decode cX4_isSame 180 = .ok (.invokevirtual 104, 3) := by decide +kernel
theorem dX4_isSame_183 : decode cX4_isSame 183 = .ok (.iload 4, 2) := by decide +kernel
theorem dX4_isSame_185 : decode cX4_isSame 185 = .ok (.if_icmp .eq 5, 3) := by decide +kernel
theorem dX4_isSame_188 : decode cX4_isSame 188 = .ok (.iconst 0, 1) := by decide +kernel
theorem dX4_isSame_189 : decode cX4_isSame 189 = .ok (.ireturn, 1) := by decide +kernel
theorem dX4_isSame_190 : decode cX4_isSame 190 = .ok (.iinc 2 1, 3) := by decide +kernel
theorem dX4_isSame_193 : decode cX4_isSame 193 = .ok (.goto (-162), 3) := by decide +kernel
theorem dX4_isSame_196 : decode cX4_isSame 196 = .ok (.iconst 0, 1) := by decide +kernel
theorem dX4_isSame_197 : decode cX4_isSame 197 = .ok (.istore_n 2, 1) := by decide +kernel
theorem dX4_isSame_198 : decode cX4_isSame 198 = .ok (.iload_n 2, 1) := by decide +kernel
theorem dX4_isSame_199 : decode cX4_isSame 199 = .ok (.aload_n 0, 1) := by decide +kernel
theorem dX4_isSame_200 : decode cX4_isSame 200 = .ok (.getfield 9, 3) := by decide +kernel
theorem dX4_isSame_203 : decode cX4_isSame 203 = .ok (.arraylength, 1) := by decide +kernel
theorem dX4_isSame_204 : decode cX4_isSame 204 = .ok (.if_icmp .ge 343, 3) := by decide +kernel
theorem dX4_isSame_207 : decode cX4_isSame 207 = .ok (.aload_n 0, 1) := by decide +kernel
theorem dX4_isSame_208 : decode cX4_isSame 208 = .ok (.getfield 9, 3) := by decide +kernel
theorem dX4_isSame_211 : decode cX4_isSame 211 = .ok (.iload_n 2, 1) := by decide +kernel
theorem dX4_isSame_212 : decode cX4_isSame 212 = .ok (.aaload, 1) := by decide +kernel
theorem dX4_isSame_213 : decode cX4_isSame 213 = .ok (.astore_n 3, 1) := by decide +kernel
theorem dX4_isSame_214 : decode cX4_isSame 214 = .ok (.bipush 7, 2) := by decide +kernel
theorem dX4_isSame_216 : decode cX4_isSame 216 = .ok (.newarray .int, 2) := by decide +kernel
theorem dX4_isSame_218 : decode cX4_isSame 218 = .ok (.dup, 1) := by decide +kernel
theorem dX4_isSame_219 : decode cX4_isSame 219 = .ok (.iconst 0, 1) := by decide +kernel
theorem dX4_isSame_220 : decode cX4_isSame 220 = .ok (.aload_n 3, 1) := by decide +kernel
theorem dX4_isSame_221 : decode cX4_isSame 221 = .ok (.getfield 53, 3) := by decide +kernel
theorem dX4_isSame_224 : decode cX4_isSame 224 = .ok (.arraylength, 1) := by decide +kernel
theorem dX4_isSame_225 : decode cX4_isSame 225 = .ok (.iastore, 1) := by decide +kernel
theorem dX4_isSame_226 : decode cX4_isSame 226 = .ok (.dup, 1) := by decide +kernel
theorem dX4_isSame_227 : decode cX4_isSame 227 = .ok (.iconst 1, 1) := by decide +kernel
theorem dX4_isSame_228 : decode cX4_isSame 228 = .ok (.aload_n 3, 1) := by decide +kernel
theorem dX4_isSame_229 : decode cX4_isSame 229 = .ok (.getfield 56, 3) := by decide +kernel
theorem dX4_isSame_232 : decode cX4_isSame 232 = .ok (.iastore, 1) := by decide +kernel
theorem dX4_isSame_233 : decode cX4_isSame 233 = .ok (.dup, 1) := by decide +kernel
theorem dX4_isSame_234 : decode cX4_isSame 234 = .ok (.iconst 2, 1) := by decide +kernel
theorem dX4_isSame_235 : decode cX4_isSame 235 = .ok (.aload_n 3, 1) := by decide +kernel
theorem dX4_isSame_236 : decode cX4_isSame 236 = .ok (.getfield 49, 3) := by decide +kernel
theorem dX4_isSame_239 : decode cX4_isSame 239 = .ok (.ifCond .eq 7, 3) := by decide +kernel
theorem dX4_isSame_242 : decode cX4_isSame 242 = .ok (.iconst 1, 1) := by decide +kernel
theorem dX4_isSame_243 : decode cX4_isSame 243 = .ok (.goto 4, 3) := by decide +kernel
theorem dX4_isSame_246 : decode cX4_isSame 246 = .ok (.iconst 0, 1) := by decide +kernel
theorem dX4_isSame_247 : decode cX4_isSame 247 = .ok (.iastore, 1) := by decide +kernel
theorem dX4_isSame_248 : decode cX4_isSame 248 = .ok (.dup, 1) := by decide +kernel
theorem dX4_isSame_249 : decode cX4_isSame 249 = .ok (.iconst 3, 1) := by decide +kernel
theorem dX4_isSame_250 : decode cX4_isSame 250 = .ok (.aload_n 3, 1) := by decide +kernel
theorem dX4_isSame_251 : decode cX4_isSame 251 = .ok (.getfield 71, 3) := by decide +kernel
theorem dX4_isSame_254 : decode cX4_isSame 254 = .ok (.iastore, 1) := by decide +kernel
theorem dX4_isSame_255 : decode cX4_isSame 255 = .ok (.dup, 1) := by decide +kernel
theorem dX4_isSame_256 : decode cX4_isSame 256 = .ok (.iconst 4, 1) := by decide +kernel
theorem dX4_isSame_257 : decode cX4_isSame 257 = .ok (.aload_n 3, 1) := by decide +kernel
theorem dX4_isSame_258 : decode cX4_isSame 258 = .ok (.getfield 89, 3) := by decide +kernel
theorem dX4_isSame_261 : decode cX4_isSame 261 = .ok (.arraylength, 1) := by decide +kernel
theorem dX4_isSame_262 : decode cX4_isSame 262 = .ok (.iastore, 1) := by decide +kernel
theorem dX4_isSame_263 : decode cX4_isSame 263 = .ok (.dup, 1) := by decide +kernel
theorem dX4_isSame_264 : decode cX4_isSame 264 = .ok (.iconst 5, 1) := by decide +kernel
theorem dX4_isSame_265 : decode cX4_isSame 265 = .ok (.aload_n 3, 1) := by decide +kernel
theorem dX4_isSame_266 : decode cX4_isSame 266 = .ok (.getfield 74, 3) := by decide +kernel
theorem dX4_isSame_269 : decode cX4_isSame 269 = .ok (.arraylength, 1) := by decide +kernel
theorem dX4_isSame_270 : decode cX4_isSame 270 = .ok (.iastore, 1) := by decide +kernel
theorem dX4_isSame_271 : decode cX4_isSame 271 = .ok (.dup, 1) := by decide +kernel
theorem dX4_isSame_272 : decode cX4_isSame 272 = .ok (.bipush 6, 2) := by decide +kernel
theorem dX4_isSame_274 : decode cX4_isSame 274 = .ok (.aload_n 3, 1) := by decide +kernel
theorem dX4_isSame_275 : decode cX4_isSame 275 = .ok (.getfield 49, 3) := by decide +kernel
theorem dX4_isSame_278 : decode cX4_isSame 278 = .ok (.ifCond .ne 15, 3) := by decide +kernel
theorem dX4_isSame_281 : decode cX4_isSame 281 = .ok (.aload_n 3, 1) := by decide +kernel
theorem dX4_isSame_282 : decode cX4_isSame 282 = .ok (.aload_n 0, 1) := by decide +kernel
theorem dX4_isSame_283 : decode cX4_isSame 283 = .ok (.invokevirtual 64, 3) := by decide +kernel
theorem dX4_isSame_286 : decode cX4_isSame 286 = .ok (.ifCond .eq 7, 3) := by decide +kernel
theorem dX4_isSame_289 : decode cX4_isSame 289 = .ok (.iconst 1, 1) := by decide +kernel
theorem dX4_isSame_290 : decode cX4_isSame 290 = .ok (.goto 4, 3) := by decide +kernel
theorem dX4_isSame_293 : decode cX4_isSame 293 = .ok (.iconst 0, 1) := by decide +kernel
theorem dX4_isSame_294 : decode cX4_isSame 294 = .ok (.iastore, 1) := by decide +kernel
theorem dX4_isSame_295 : decode cX4_isSame 295 = .ok (.astore 4, 2) := by decide +kernel
theorem dX4_isSame_297 : decode cX4_isSame 297 = .ok (.iconst 0, 1) := by decide +kernel
theorem dX4_isSame_298 : decode cX4_isSame 298 = .ok (.istore 5, 2) := by decide +kernel
theorem dX4_isSame_300 : decode cX4_isSame 300 = .ok (.iload 5, 2) := by decide +kernel
theorem dX4_isSame_302 : decode cX4_isSame 302 = .ok (.bipush 7, 2) := by decide +kernel
theorem dX4_isSame_304 : decode cX4_isSame 304 = .ok (.if_icmp .ge 26, 3) := by decide +kernel
theorem dX4_isSame_307 : decode cX4_isSame 307 = .ok (.aload_n 1, 1) := by decide +kernel
theorem dX4_isSame_308 : decode cX4_isSame 308 = .ok (.iload_n 2, 1) := by decide +kernel
theorem dX4_isSame_309 : decode cX4_isSame 309 = .ok (.iload 5, 2) := by decide +kernel
theorem dX4_isSame_311 : decode cX4_isSame 311 = .ok (.invokevirtual 108, 3) := by decide +kernel
theorem dX4_isSame_314 : decode cX4_isSame 314 = .ok (.aload 4, 2) := by decide +kernel
theorem dX4_isSame_316 : decode cX4_isSame 316 = .ok (.iload 5, 2) := by decide +kernel
theorem dX4_isSame_318 : decode cX4_isSame 318 = .ok (.iaload, 1) := by decide +kernel
theorem dX4_isSame_319 : decode cX4_isSame 319 = .ok (.if_icmp .eq 5, 3) := by decide +kernel
theorem dX4_isSame_322 : decode cX4_isSame 322 = .ok (.iconst 0, 1) := by decide +kernel
theorem dX4_isSame_323 : decode cX4_isSame 323 = .ok (.ireturn, 1) := by decide +kernel
theorem dX4_isSame_324 : decode cX4_isSame 324 = .ok (.iinc 5 1, 3) := by decide +kernel
theorem dX4_isSame_327 : decode cX4_isSame 327 = .ok (.goto (-27), 3) := by decide +kernel
theorem dX4_isSame_330 : decode cX4_isSame 330 = .ok (.iconst 0, 1) := by decide +kernel
theorem dX4_isSame_331 : decode cX4_isSame 331 = .ok (.istore 5, 2) := by decide +kernel
theorem dX4_isSame_333 : decode cX4_isSame 333 = .ok (.iload 5, 2) := by decide +kernel
theorem dX4_isSame_335 : decode cX4_isSame 335 = .ok (.aload_n 0, 1) := by decide +kernel
theorem dX4_isSame_336 : decode cX4_isSame 336 = .ok (.getfield 21, 3) := by decide +kernel
theorem dX4_isSame_339 : decode cX4_isSame 339 = .ok (.arraylength, 1) := by decide +kernel
theorem dX4_isSame_340 : decode cX4_isSame 340 = .ok (.if_icmp .ge 105, 3) := by decide +kernel
theorem dX4_isSame_343 : decode cX4_isSame 343 = .ok (.aload_n 3, 1) := by decide +kernel
theorem dX4_isSame_344 : decode cX4_isSame 344 = .ok (.getfield 89, 3) := by decide +kernel
theorem dX4_isSame_347 : decode cX4_isSame 347 = .ok (.iload 5, 2) := by decide +kernel
theorem dX4_isSame_349 : decode cX4_isSame 349 = .ok (.invokestatic 92, 3) := by decide +kernel
theorem dX4_isSame_352 : decode cX4_isSame 352 = .ok (.astore 6, 2) := by decide +kernel
theorem dX4_isSame_354 : decode cX4_isSame 354 = .ok (.aload_n 3, 1) := by decide +kernel
theorem dX4_isSame_355 : decode cX4_isSame 355 = .ok (.getfield 74, 3) := by decide +kernel
theorem dX4_isSame_358 : decode cX4_isSame 358 = .ok (.iload 5, 2) := by decide +kernel
theorem dX4_isSame_360 : decode cX4_isSame 360 = .ok (.invokestatic 92, 3) := by decide +kernel
theorem dX4_isSame_363 : decode cX4_isSame 363 = .ok (.astore 7, 2) := by decide +kernel
theorem dX4_isSame_365 : decode cX4_isSame 365 = .ok (.aload_n 1, 1) := by decide +kernel
theorem dX4_isSame_366 : decode cX4_isSame 366 = .ok (.iload_n 2, 1) := by decide +kernel
theorem dX4_isSame_367 : decode cX4_isSame 367 = .ok (.iload 5, 2) := by decide +kernel
theorem dX4_isSame_369 : decode cX4_isSame 369 = .ok (.iconst 0, 1) := by decide +kernel
theorem dX4_isSame_370 : decode cX4_isSame 370 = .ok (.invokevirtual 111, 3) := by decide +kernel
theorem dX4_isSame_373 : decode cX4_isSame 373 = .ok (.aload 6, 2) := by decide +kernel
theorem dX4_isSame_375 : decode cX4_isSame 375 = .ok (.ifnonnull 7, 3) := by decide +kernel
theorem dX4_isSame_378 : decode cX4_isSame 378 = .ok (.iconst (-1), 1) := by decide +kernel
theorem dX4_isSame_379 : decode cX4_isSame 379 = .ok (.goto 7, 3) := by decide +kernel
theorem dX4_isSame_382 : decode cX4_isSame 382 = .ok (.aload 6, 2) := by decide +kernel
theorem dX4_isSame_384 : decode cX4_isSame 384 = .ok (.iconst 1, 1) := by decide +kernel
theorem dX4_isSame_385 : decode cX4_isSame 385 = .ok (.iaload, 1) := by decide +kernel
theorem dX4_isSame_386 : decode cX4_isSame 386 = .ok (.if_icmp .ne 51, 3) := by decide +kernel
theorem dX4_isSame_389 : decode cX4_isSame 389 = .ok (.aload_n 1, 1) := by decide +kernel
theorem dX4_isSame_390 : decode cX4_isSame 390 = .ok (.iload_n 2, 1) := by decide +kernel
theorem dX4_isSame_391 : decode cX4_isSame 391 = .ok (.iload 5, 2) := by decide +kernel
theorem dX4_isSame_393 : decode cX4_isSame 393 = .ok (.iconst 1, 1) := by decide +kernel
theorem dX4_isSame_394 : decode cX4_isSame 394 = .ok (.invokevirtual 111, 3) := by decide +kernel
theorem dX4_isSame_397 : decode cX4_isSame 397 = .ok (.aload 6, 2) := by decide +kernel
theorem dX4_isSame_399 : decode cX4_isSame 399 = .ok (.ifnonnull 7, 3) := by decide +kernel
theorem dX4_isSame_402 : decode cX4_isSame 402 = .ok (.iconst (-1), 1) := by decide +kernel
theorem dX4_isSame_403 : decode cX4_isSame 403 = .ok (.goto 7, 3) := by decide +kernel
theorem dX4_isSame_406 : decode cX4_isSame 406 = .ok (.aload 6, 2) := by decide +kernel
theorem dX4_isSame_408 : decode cX4_isSame 408 = .ok (.iconst 2, 1) := by decide +kernel
theorem dX4_isSame_409 : decode cX4_isSame 409 = .ok (.iaload, 1) := by decide +kernel
theorem dX4_isSame_410 : decode cX4_isSame 410 = .ok (.if_icmp .ne 27, 3) := by decide +kernel
theorem dX4_isSame_413 : decode cX4_isSame 413 = .ok (.aload_n 1, 1) := by decide +kernel
theorem dX4_isSame_414 : decode cX4_isSame 414 = .ok (.iload_n 2, 1) := by decide +kernel
theorem dX4_isSame_415 : decode cX4_isSame 415 = .ok (.iload 5, 2) := by decide +kernel
theorem dX4_isSame_417 : decode cX4_isSame 417 = .ok (.iconst 2, 1) := by decide +kernel
theorem dX4_isSame_418 : decode cX4_isSame 418 = .ok (.invokevirtual 111, 3) := by decide +kernel
theorem dX4_isSame_421 : decode cX4_isSame 421 = .ok (.aload 7, 2) := by decide +kernel
theorem dX4_isSame_423 : decode cX4_isSame 423 = .ok (.ifnonnull 7, 3) := by decide +kernel
theorem dX4_isSame_426 : decode cX4_isSame 426 = .ok (.iconst (-1), 1) := by decide +kernel
theorem dX4_isSame_427 : decode cX4_isSame 427 = .ok (.goto 7, 3) := by decide +kernel
theorem dX4_isSame_430 : decode cX4_isSame 430 = .ok (.aload 7, 2) := by decide +kernel
theorem dX4_isSame_432 : decode cX4_isSame 432 = .ok (.iconst 1, 1) := by decide +kernel
theorem dX4_isSame_433 : decode cX4_isSame 433 = .ok (.iaload, 1) := by decide +kernel
theorem dX4_isSame_434 : decode cX4_isSame 434 = .ok (.if_icmp .eq 5, 3) := by decide +kernel
theorem dX4_isSame_437 : decode cX4_isSame 437 = .ok (.iconst 0, 1) := by decide +kernel
theorem dX4_isSame_438 : decode cX4_isSame 438 = .ok (.ireturn, 1) := by decide +kernel
theorem dX4_isSame_439 : decode cX4_isSame 439 = .ok (.iinc 5 1, 3) := by decide +kernel
theorem dX4_isSame_442 : decode cX4_isSame 442 = .ok (.goto (-109), 3) := by decide +kernel
theorem dX4_isSame_445 : decode cX4_isSame 445 = .ok (.iconst 0, 1) := by decide +kernel
theorem dX4_isSame_446 : decode cX4_isSame 446 = .ok (.istore 5, 2) := by decide +kernel
theorem dX4_isSame_448 : decode cX4_isSame 448 = .ok (.iload 5, 2) := by decide +kernel
theorem dX4_isSame_450 : decode cX4_isSame 450 = .ok (.aload_n 3, 1) := by decide +kernel
theorem dX4_isSame_451 : decode cX4_isSame 451 = .ok (.getfield 53, 3) := by decide +kernel
theorem dX4_isSame_454 : decode cX4_isSame 454 = .ok (.arraylength, 1) := by decide +kernel
theorem dX4_isSame_455 : decode cX4_isSame 455 = .ok (.if_icmp .ge 48, 3) := by decide +kernel
theorem dX4_isSame_458 : decode cX4_isSame 458 = .ok (.iconst 0, 1) := by decide +kernel
theorem dX4_isSame_459 : decode cX4_isSame 459 = .ok (.istore 6, 2) := by decide +kernel
theorem dX4_isSame_461 : decode cX4_isSame 461 = .ok (.iload 6, 2) := by decide +kernel
theorem dX4_isSame_463 : decode cX4_isSame 463 = .ok (.iconst 4, 1) := by decide +kernel
theorem dX4_isSame_464 : decode cX4_isSame 464 = .ok (.if_icmp .ge 33, 3) := by decide +kernel
theorem dX4_isSame_467 : decode cX4_isSame 467 = .ok (.aload_n 1, 1) := by decide +kernel
theorem dX4_isSame_468 : decode cX4_isSame 468 = .ok (.iload_n 2, 1) := by decide +kernel
theorem dX4_isSame_469 : decode cX4_isSame 469 = .ok (.iload 5, 2) := by decide +kernel
theorem dX4_isSame_471 : decode cX4_isSame 471 = .ok (.iload 6, 2) := by decide +kernel
theorem dX4_isSame_473 : decode cX4_isSame 473 = .ok (.invokevirtual 115, 3) := by decide +kernel
theorem dX4_isSame_476 : decode cX4_isSame 476 = .ok (.aload_n 3, 1) := by decide +kernel
theorem dX4_isSame_477 : decode cX4_isSame 477 = .ok (.getfield 53, 3) := by decide +kernel
theorem dX4_isSame_480 : decode cX4_isSame 480 = .ok (.iload 5, 2) := by decide +kernel
theorem dX4_isSame_482 : decode cX4_isSame 482 = .ok (.aaload, 1) := by decide +kernel
theorem dX4_isSame_483 : decode cX4_isSame 483 = .ok (.iload 6, 2) := by decide +kernel
theorem dX4_isSame_485 : decode cX4_isSame 485 = .ok (.iaload, 1) := by decide +kernel
theorem dX4_isSame_486 : decode cX4_isSame 486 = .ok (.if_icmp .eq 5, 3) := by decide +kernel
theorem dX4_isSame_489 : decode cX4_isSame 489 = .ok (.iconst 0, 1) := by decide +kernel
theorem dX4_isSame_490 : decode cX4_isSame 490 = .ok (.ireturn, 1) := by decide +kernel
theorem dX4_isSame_491 : decode cX4_isSame 491 = .ok (.iinc 6 1, 3) := by decide +kernel
theorem dX4_isSame_494 : decode cX4_isSame 494 = .ok (.goto (-33), 3) := by decide +kernel
theorem dX4_isSame_497 : decode cX4_isSame 497 = .ok (.iinc 5 1, 3) := by decide +kernel
theorem dX4_isSame_500 : decode cX4_isSame 500 = .ok (.goto (-52), 3) := by decide +kernel
theorem dX4_isSame_503 : decode cX4_isSame 503 = .ok (.iconst 0, 1) := by decide +kernel
theorem dX4_isSame_504 : decode cX4_isSame 504 = .ok (.istore 5, 2) := by decide +kernel
theorem dX4_isSame_506 : decode cX4_isSame 506 = .ok (.iload 5, 2) := by decide +kernel
theorem dX4_isSame_508 : decode cX4_isSame 508 = .ok (.aload_n 0, 1) := by decide +kernel
theorem dX4_isSame_509 : decode cX4_isSame 509 = .ok (.getfield 9, 3) := by decide +kernel
theorem dX4_isSame_512 : decode cX4_isSame 512 = .ok (.arraylength, 1) := by decide +kernel
theorem dX4_isSame_513 : decode cX4_isSame 513 = .ok (.if_icmp .ge 28, 3) := by decide +kernel
theorem dX4_isSame_516 : decode cX4_isSame 516 = .ok (.aload_n 1, 1) := by decide +kernel
theorem dX4_isSame_517 : decode cX4_isSame 517 = .ok (.iload_n 2, 1) := by decide +kernel
theorem dX4_isSame_518 : decode cX4_isSame 518 = .ok (.iload 5, 2) := by decide +kernel
theorem dX4_isSame_520 : decode cX4_isSame 520 = .ok (.invokevirtual 118, 3) := by decide +kernel
theorem dX4_isSame_523 : decode cX4_isSame 523 = .ok (.aload_n 0, 1) := by decide +kernel
theorem dX4_isSame_524 : decode cX4_isSame 524 = .ok (.iload_n 2, 1) := by decide +kernel
theorem dX4_isSame_525 : decode cX4_isSame 525 = .ok (.iload 5, 2) := by decide +kernel
theorem dX4_isSame_527 : decode cX4_isSame 527 = .ok (.invokevirtual 122, 3) := by decide +kernel
theorem dX4_isSame_530 : decode cX4_isSame 530 = .ok (.if_icmp .eq 5, 3) := by decide +kernel
theorem dX4_isSame_533 : decode cX4_isSame 533 = .ok (.iconst 0, 1) := by decide +kernel
theorem dX4_isSame_534 : decode cX4_isSame 534 = .ok (.ireturn, 1) := by decide +kernel
theorem dX4_isSame_535 : decode cX4_isSame 535 = .ok (.iinc 5 1, 3) := by decide +kernel
theorem dX4_isSame_538 : decode cX4_isSame 538 = .ok (.goto (-32), 3) := by decide +kernel
theorem dX4_isSame_541 : decode cX4_isSame 541 = .ok (.iinc 2 1, 3) := by decide +kernel
theorem dX4_isSame_544 : decode cX4_isSame 544 = .ok (.goto (-346), 3) := by decide +kernel
theorem dX4_isSame_547 : decode cX4_isSame 547 = .ok (.iconst 0, 1) := by decide +kernel
theorem dX4_isSame_548 : decode cX4_isSame 548 = .ok (.istore_n 2, 1) := by decide +kernel
theorem dX4_isSame_549 : decode cX4_isSame 549 = .ok (.iload_n 2, 1) := by decide +kernel
theorem dX4_isSame_550 : decode cX4_isSame 550 = .ok (.bipush 10, 2) := by decide +kernel
theorem dX4_isSame_552 : decode cX4_isSame 552 = .ok (.if_icmp .ge 58, 3) := by decide +kernel
theorem dX4_isSame_555 : decode cX4_isSame 555 = .ok (.iload_n 2, 1) := by decide +kernel
theorem dX4_isSame_556 : decode cX4_isSame 556 = .ok (.aload_n 0, 1) := by decide +kernel
theorem dX4_isSame_557 : decode cX4_isSame 557 = .ok (.getfield 17, 3) := by decide +kernel
theorem dX4_isSame_560 : decode cX4_isSame 560 = .ok (.arraylength, 1) := by decide +kernel
theorem dX4_isSame_561 : decode cX4_isSame 561 = .ok (.if_icmp .ge 49, 3) := by decide +kernel
theorem dX4_isSame_564 : decode cX4_isSame 564 = .ok (.iconst 0, 1) := by decide +kernel
theorem dX4_isSame_565 : decode cX4_isSame 565 = .ok (.istore_n 3, 1) := by decide +kernel
theorem dX4_isSame_566 : decode cX4_isSame 566 = .ok (.iload_n 3, 1) := by decide +kernel
theorem dX4_isSame_567 : decode cX4_isSame 567 = .ok (.iconst 3, 1) := by decide +kernel
theorem dX4_isSame_568 : decode cX4_isSame 568 = .ok (.if_icmp .ge 36, 3) := by decide +kernel
theorem dX4_isSame_571 : decode cX4_isSame 571 = .ok (.aload_n 1, 1) := by decide +kernel
theorem dX4_isSame_572 : decode cX4_isSame 572 = .ok (.iload_n 2, 1) := by decide +kernel
theorem dX4_isSame_573 : decode cX4_isSame 573 = .ok (.iload_n 3, 1) := by decide +kernel
theorem dX4_isSame_574 : decode cX4_isSame 574 = .ok (.invokevirtual 123, 3) := by decide +kernel
theorem dX4_isSame_577 : decode cX4_isSame 577 = .ok (.aload_n 0, 1) := by decide +kernel
theorem dX4_isSame_578 : decode cX4_isSame 578 = .ok (.getfield 17, 3) := by decide +kernel
theorem dX4_isSame_581 : decode cX4_isSame 581 = .ok (.aload_n 0, 1) := by decide +kernel
theorem dX4_isSame_582 : decode cX4_isSame 582 = .ok (.getfield 17, 3) := by decide +kernel
theorem dX4_isSame_585 : decode cX4_isSame 585 = .ok (.arraylength, 1) := by decide +kernel
theorem dX4_isSame_586 : decode cX4_isSame 586 = .ok (.iconst 1, 1) := by decide +kernel
theorem dX4_isSame_587 : decode cX4_isSame 587 = .ok (.isub, 1) := by decide +kernel
theorem dX4_isSame_588 : decode cX4_isSame 588 = .ok (.iload_n 2, 1) := by decide +kernel
theorem dX4_isSame_589 : decode cX4_isSame 589 = .ok (.isub, 1) := by decide +kernel
theorem dX4_isSame_590 : decode cX4_isSame 590 = .ok (.aaload, 1) := by decide +kernel
theorem dX4_isSame_591 : decode cX4_isSame 591 = .ok (.iload_n 3, 1) := by decide +kernel
theorem dX4_isSame_592 : decode cX4_isSame 592 = .ok (.iaload, 1) := by decide +kernel
theorem dX4_isSame_593 : decode cX4_isSame 593 = .ok (.if_icmp .eq 5, 3) := by decide +kernel
theorem dX4_isSame_596 : decode cX4_isSame 596 = .ok (.iconst 0, 1) := by decide +kernel
theorem dX4_isSame_597 : decode cX4_isSame 597 = .ok (.ireturn, 1) := by decide +kernel
theorem dX4_isSame_598 : decode cX4_isSame 598 = .ok (.iinc 3 1, 3) := by decide +kernel
theorem dX4_isSame_601 : decode cX4_isSame 601 = .ok (.goto (-35), 3) := by decide +kernel
theorem dX4_isSame_604 : decode cX4_isSame 604 = .ok (.iinc 2 1, 3) := by decide +kernel
theorem dX4_isSame_607 : decode cX4_isSame 607 = .ok (.goto (-58), 3) := by decide +kernel
theorem dX4_isSame_610 : decode cX4_isSame 610 = .ok (.aload_n 1, 1) := by decide +kernel
theorem dX4_isSame_611 : decode cX4_isSame 611 = .ok (.invokevirtual 126, 3) := by decide +kernel
theorem dX4_isSame_614 : decode cX4_isSame 614 = .ok (.aload_n 0, 1) := by decide +kernel
theorem dX4_isSame_615 : decode cX4_isSame 615 = .ok (.getfield 9, 3) := by decide +kernel
theorem dX4_isSame_618 : decode cX4_isSame 618 = .ok (.arraylength, 1) := by decide +kernel
theorem dX4_isSame_619 : decode cX4_isSame 619 = .ok (.ifCond .ne 7, 3) := by decide +kernel
theorem dX4_isSame_622 : decode cX4_isSame 622 = .ok (.dconst 0, 1) := by decide +kernel
theorem dX4_isSame_623 : decode cX4_isSame 623 = .ok (.goto 16, 3) := by decide +kernel
theorem dX4_isSame_626 : decode cX4_isSame 626 = .ok (.aload_n 0, 1) := by decide +kernel
theorem dX4_isSame_627 : decode cX4_isSame 627 = .ok (.iconst 4, 1) := by decide +kernel
theorem dX4_isSame_628 : decode cX4_isSame 628 = .ok (.invokevirtual 101, 3) := by decide +kernel
theorem dX4_isSame_631 : decode cX4_isSame 631 = .ok (.i2d, 1) := by decide +kernel
theorem dX4_isSame_632 : decode cX4_isSame 632 = .ok (.aload_n 0, 1) := by decide +kernel
theorem dX4_isSame_633 : decode cX4_isSame 633 = .ok (.getfield 9, 3) := by decide +kernel
theorem dX4_isSame_636 : decode cX4_isSame 636 = .ok (.arraylength, 1) := by decide +kernel
theorem dX4_isSame_637 : decode cX4_isSame 637 = .ok (.i2d, 1) := by decide +kernel
theorem dX4_isSame_638 : decode cX4_isSame 638 = .ok (.ddiv, 1) := by decide +kernel
theorem dX4_isSame_639 : decode cX4_isSame 639 = .ok (.dcmp .l, 1) := by decide +kernel
theorem dX4_isSame_640 : decode cX4_isSame 640 = .ok (.ifCond .ne 7, 3) := by decide +kernel
theorem dX4_isSame_643 : decode cX4_isSame 643 = .ok (.iconst 1, 1) := by decide +kernel
theorem dX4_isSame_644 : decode cX4_isSame 644 = .ok (.goto 4, 3) := by decide +kernel
theorem dX4_isSame_647 : decode cX4_isSame 647 = .ok (.iconst 0, 1) := by decide +kernel
theorem dX4_isSame_648 : decode cX4_isSame 648 = .ok (.ireturn, 1) := by decide +kernel
theorem dJ9_min_7cf53_0 : decode cJ9_min_7cf53 0 = .ok (.iload_n 0, 1) := by decide +kernel
theorem dJ9_min_7cf53_1 : decode cJ9_min_7cf53 1 = .ok (.iload_n 1, 1) := by decide +kernel
theorem dJ9_min_7cf53_2 : decode cJ9_min_7cf53 2 = .ok (.if_icmp .gt 7, 3) := by decide +kernel
theorem dJ9_min_7cf53_5 : decode cJ9_min_7cf53 5 = .ok (.iload_n 0, 1) := by decide +kernel
theorem dJ9_min_7cf53_6 : decode cJ9_min_7cf53 6 = .ok (.goto 4, 3) := by decide +kernel
theorem dJ9_min_7cf53_9 : decode cJ9_min_7cf53 9 = .ok (.iload_n 1, 1) := by decide +kernel
theorem dJ9_min_7cf53_10 : decode cJ9_min_7cf53 10 = .ok (.ireturn, 1) := by decide +kernel
theorem dL_below_0 : decode cL_below 0 = .ok (.iload_n 0, 1) := by decide +kernel
theorem dL_below_1 : decode cL_below 1 = .ok (.ldc 7, 2) := by decide +kernel
theorem dL_below_3 : decode cL_below 3 = .ok (.iand, 1) := by decide +kernel
theorem dL_below_4 : decode cL_below 4 = .ok (.iload_n 1, 1) := by decide +kernel
theorem dL_below_5 : decode cL_below 5 = .ok (.irem, 1) := by decide +kernel
theorem dL_below_6 : decode cL_below 6 = .ok (.ireturn, 1) := by decide +kernel
theorem dL_cell_0 : decode cL_cell 0 = .ok (.iload_n 1, 1) := by decide +kernel
theorem dL_cell_1 : decode cL_cell 1 = .ok (.aload_n 0, 1) := by decide +kernel
theorem dL_cell_2 : decode cL_cell 2 = .ok (.arraylength, 1) := by decide +kernel
theorem dL_cell_3 : decode cL_cell 3 = .ok (.if_icmp .ge 9, 3) := by decide +kernel
theorem dL_cell_6 : decode cL_cell 6 = .ok (.aload_n 0, 1) := by decide +kernel
theorem dL_cell_7 : decode cL_cell 7 = .ok (.iload_n 1, 1) := by decide +kernel
theorem dL_cell_8 : decode cL_cell 8 = .ok (.iaload, 1) := by decide +kernel
theorem dL_cell_9 : decode cL_cell 9 = .ok (.goto 9, 3) := by decide +kernel
theorem dL_cell_12 : decode cL_cell 12 = .ok (.ldc 8, 2) := by decide +kernel
theorem dL_cell_14 : decode cL_cell 14 = .ok (.iload_n 1, 1) := by decide +kernel
theorem dL_cell_15 : decode cL_cell 15 = .ok (.iconst 3, 1) := by decide +kernel
theorem dL_cell_16 : decode cL_cell 16 = .ok (.iadd, 1) := by decide +kernel
theorem dL_cell_17 : decode cL_cell 17 = .ok (.imul, 1) := by decide +kernel
theorem dL_cell_18 : decode cL_cell 18 = .ok (.ireturn, 1) := by decide +kernel
theorem dL_say_0 : decode cL_say 0 = .ok (.aload_n 1, 1) := by decide +kernel
theorem dL_say_1 : decode cL_say 1 = .ok (.getfield 9, 3) := by decide +kernel
theorem dL_say_4 : decode cL_say 4 = .ok (.arraylength, 1) := by decide +kernel
theorem dL_say_5 : decode cL_say 5 = .ok (.istore 4, 2) := by decide +kernel
theorem dL_say_7 : decode cL_say 7 = .ok (.iload_n 3, 1) := by decide +kernel
theorem dL_say_8 : decode cL_say 8 = .ok (.iconst 4, 1) := by decide +kernel
theorem dL_say_9 : decode cL_say 9 = .ok (.invokestatic 15, 3) := by decide +kernel
theorem dL_say_12 : decode cL_say 12 = .ok (.istore 5, 2) := by decide +kernel
theorem dL_say_14 : decode cL_say 14 = .ok (.iload_n 3, 1) := by decide +kernel
theorem dL_say_15 : decode cL_say 15 = .ok (.iconst 2, 1) := by decide +kernel
theorem dL_say_16 : decode cL_say 16 = .ok (.ishr, 1) := by decide +kernel
theorem dL_say_17 : decode cL_say 17 = .ok (.iload 4, 2) := by decide +kernel
theorem dL_say_19 : decode cL_say 19 = .ok (.invokestatic 15, 3) := by decide +kernel
theorem dL_say_22 : decode cL_say 22 = .ok (.istore 6, 2) := by decide +kernel
theorem dL_say_24 : decode cL_say 24 = .ok (.iload_n 3, 1) := by decide +kernel
theorem dL_say_25 : decode cL_say 25 = .ok (.iconst 5, 1) := by decide +kernel
theorem dL_say_26 : decode cL_say 26 = .ok (.ishr, 1) := by decide +kernel
theorem dL_say_27 : decode cL_say 27 = .ok (.iload 4, 2) := by decide +kernel
theorem dL_say_29 : decode cL_say 29 = .ok (.invokestatic 15, 3) := by decide +kernel
theorem dL_say_32 : decode cL_say 32 = .ok (.istore 7, 2) := by decide +kernel
theorem dL_say_34 : decode cL_say 34 = .ok (.iload 5, 2) := by decide +kernel
theorem dL_say_36 : decode cL_say 36 = .ok (.iconst 3, 1) := by decide +kernel
theorem dL_say_37 : decode cL_say 37 = .ok (.if_icmp .ne 31, 3) := by decide +kernel
theorem dL_say_40 : decode cL_say 40 = .ok (.iload 6, 2) := by decide +kernel
theorem dL_say_42 : decode cL_say 42 = .ok (.iload 7, 2) := by decide +kernel
theorem dL_say_44 : decode cL_say 44 = .ok (.if_icmp .ne 24, 3) := by decide +kernel
theorem dL_say_47 : decode cL_say 47 = .ok (.iload 4, 2) := by decide +kernel
theorem dL_say_49 : decode cL_say 49 = .ok (.iconst 1, 1) := by decide +kernel
theorem dL_say_50 : decode cL_say 50 = .ok (.if_icmp .ne 9, 3) := by decide +kernel
theorem dL_say_53 : decode cL_say 53 = .ok (.iconst 0, 1) := by decide +kernel
theorem dL_say_54 : decode cL_say 54 = .ok (.istore 5, 2) := by decide +kernel
theorem dL_say_56 : decode cL_say 56 = .ok (.goto 12, 3) := by decide +kernel
theorem dL_say_59 : decode cL_say 59 = .ok (.iload 6, 2) := by decide +kernel
theorem dL_say_61 : decode cL_say 61 = .ok (.iconst 1, 1) := by decide +kernel
theorem dL_say_62 : decode cL_say 62 = .ok (.iadd, 1) := by decide +kernel
theorem dL_say_63 : decode cL_say 63 = .ok (.iload 4, 2) := by decide +kernel
theorem dL_say_65 : decode cL_say 65 = .ok (.irem, 1) := by decide +kernel
theorem dL_say_66 : decode cL_say 66 = .ok (.istore 7, 2) := by decide +kernel
theorem dL_say_68 : decode cL_say 68 = .ok (.iload_n 3, 1) := by decide +kernel
theorem dL_say_69 : decode cL_say 69 = .ok (.iconst 4, 1) := by decide +kernel
theorem dL_say_70 : decode cL_say 70 = .ok (.ishr, 1) := by decide +kernel
theorem dL_say_71 : decode cL_say 71 = .ok (.bipush 7, 2) := by decide +kernel
theorem dL_say_73 : decode cL_say 73 = .ok (.invokestatic 15, 3) := by decide +kernel
theorem dL_say_76 : decode cL_say 76 = .ok (.ifCond .ne 19, 3) := by decide +kernel
theorem dL_say_79 : decode cL_say 79 = .ok (.iload_n 3, 1) := by decide +kernel
theorem dL_say_80 : decode cL_say 80 = .ok (.iconst 3, 1) := by decide +kernel
theorem dL_say_81 : decode cL_say 81 = .ok (.ishr, 1) := by decide +kernel
theorem dL_say_82 : decode cL_say 82 = .ok (.iconst 2, 1) := by decide +kernel
theorem dL_say_83 : decode cL_say 83 = .ok (.invokestatic 15, 3) := by decide +kernel
theorem dL_say_86 : decode cL_say 86 = .ok (.sipush 998, 3) := by decide +kernel
theorem dL_say_89 : decode cL_say 89 = .ok (.imul, 1) := by decide +kernel
theorem dL_say_90 : decode cL_say 90 = .ok (.iconst 1, 1) := by decide +kernel
theorem dL_say_91 : decode cL_say 91 = .ok (.iadd, 1) := by decide +kernel
theorem dL_say_92 : decode cL_say 92 = .ok (.goto 14, 3) := by decide +kernel
theorem dL_say_95 : decode cL_say 95 = .ok (.iconst 1, 1) := by decide +kernel
theorem dL_say_96 : decode cL_say 96 = .ok (.iload_n 3, 1) := by decide +kernel
theorem dL_say_97 : decode cL_say 97 = .ok (.bipush 6, 2) := by decide +kernel
theorem dL_say_99 : decode cL_say 99 = .ok (.ishr, 1) := by decide +kernel
theorem dL_say_100 : decode cL_say 100 = .ok (.bipush 60, 2) := by decide +kernel
theorem dL_say_102 : decode cL_say 102 = .ok (.invokestatic 15, 3) := by decide +kernel
theorem dL_say_105 : decode cL_say 105 = .ok (.iadd, 1) := by decide +kernel
theorem dL_say_106 : decode cL_say 106 = .ok (.istore 8, 2) := by decide +kernel
theorem dL_say_108 : decode cL_say 108 = .ok (.iload 5, 2) := by decide +kernel
theorem dL_say_110 : decode cL_say 110 = .ok (.iconst 2, 1) := by decide +kernel
theorem dL_say_111 : decode cL_say 111 = .ok (.if_icmp .ne 18, 3) := by decide +kernel
theorem dL_say_114 : decode cL_say 114 = .ok (.iload_n 3, 1) := by decide +kernel
theorem dL_say_115 : decode cL_say 115 = .ok (.iconst 3, 1) := by decide +kernel
theorem dL_say_116 : decode cL_say 116 = .ok (.ishr, 1) := by decide +kernel
theorem dL_say_117 : decode cL_say 117 = .ok (.iconst 3, 1) := by decide +kernel
theorem dL_say_118 : decode cL_say 118 = .ok (.invokestatic 15, 3) := by decide +kernel
theorem dL_say_121 : decode cL_say 121 = .ok (.ifCond .ne 8, 3) := by decide +kernel
theorem dL_say_124 : decode cL_say 124 = .ok (.iload 8, 2) := by decide +kernel
theorem dL_say_126 : decode cL_say 126 = .ok (.ineg, 1) := by decide +kernel
theorem dL_say_127 : decode cL_say 127 = .ok (.istore 8, 2) := by decide +kernel
theorem dL_say_129 : decode cL_say 129 = .ok (.iconst 4, 1) := by decide +kernel
theorem dL_say_130 : decode cL_say 130 = .ok (.newarray .int, 2) := by decide +kernel
theorem dL_say_132 : decode cL_say 132 = .ok (.dup, 1) := by decide +kernel
theorem dL_say_133 : decode cL_say 133 = .ok (.iconst 0, 1) := by decide +kernel
theorem dL_say_134 : decode cL_say 134 = .ok (.iload 5, 2) := by decide +kernel
theorem dL_say_136 : decode cL_say 136 = .ok (.iastore, 1) := by decide +kernel
theorem dL_say_137 : decode cL_say 137 = .ok (.dup, 1) := by decide +kernel
theorem dL_say_138 : decode cL_say 138 = .ok (.iconst 1, 1) := by decide +kernel
theorem dL_say_139 : decode cL_say 139 = .ok (.iload 6, 2) := by decide +kernel
theorem dL_say_141 : decode cL_say 141 = .ok (.iastore, 1) := by decide +kernel
theorem dL_say_142 : decode cL_say 142 = .ok (.dup, 1) := by decide +kernel
theorem dL_say_143 : decode cL_say 143 = .ok (.iconst 2, 1) := by decide +kernel
theorem dL_say_144 : decode cL_say 144 = .ok (.iload 7, 2) := by decide +kernel
theorem dL_say_146 : decode cL_say 146 = .ok (.iastore, 1) := by decide +kernel
theorem dL_say_147 : decode cL_say 147 = .ok (.dup, 1) := by decide +kernel
theorem dL_say_148 : decode cL_say 148 = .ok (.iconst 3, 1) := by decide +kernel
theorem dL_say_149 : decode cL_say 149 = .ok (.iload 8, 2) := by decide +kernel
theorem dL_say_151 : decode cL_say 151 = .ok (.iastore, 1) := by decide +kernel
theorem dL_say_152 : decode cL_say 152 = .ok (.astore 9, 2) := by decide +kernel
theorem dL_say_154 : decode cL_say 154 = .ok (.aload_n 1, 1) := by decide +kernel
theorem dL_say_155 : decode cL_say 155 = .ok (.getfield 21, 3) := by decide +kernel
theorem dL_say_158 : decode cL_say 158 = .ok (.iload_n 2, 1) := by decide +kernel
theorem dL_say_159 : decode cL_say 159 = .ok (.aaload, 1) := by decide +kernel
theorem dL_say_160 : decode cL_say 160 = .ok (.astore 10, 2) := by decide +kernel
theorem dL_say_162 : decode cL_say 162 = .ok (.aload 10, 2) := by decide +kernel
theorem dL_say_164 : decode cL_say 164 = .ok (.getfield 25, 3) := by decide +kernel
theorem dL_say_167 : decode cL_say 167 = .ok (.ifCond .ne 26, 3) := by decide +kernel
theorem dL_say_170 : decode cL_say 170 = .ok (.aload 10, 2) := by decide +kernel
theorem dL_say_172 : decode cL_say 172 = .ok (.getfield 31, 3) := by decide +kernel
theorem dL_say_175 : decode cL_say 175 = .ok (.ifCond .ne 18, 3) := by decide +kernel
theorem dL_say_178 : decode cL_say 178 = .ok (.aload 10, 2) := by decide +kernel
theorem dL_say_180 : decode cL_say 180 = .ok (.getfield 35, 3) := by decide +kernel
theorem dL_say_183 : decode cL_say 183 = .ok (.arraylength, 1) := by decide +kernel
theorem dL_say_184 : decode cL_say 184 = .ok (.bipush 8, 2) := by decide +kernel
theorem dL_say_186 : decode cL_say 186 = .ok (.if_icmp .ge 7, 3) := by decide +kernel
theorem dL_say_189 : decode cL_say 189 = .ok (.iconst 1, 1) := by decide +kernel
theorem dL_say_190 : decode cL_say 190 = .ok (.goto 4, 3) := by decide +kernel
theorem dL_say_193 : decode cL_say 193 = .ok (.iconst 0, 1) := by decide +kernel
theorem dL_say_194 : decode cL_say 194 = .ok (.istore 11, 2) := by decide +kernel
theorem dL_say_196 : decode cL_say 196 = .ok (.aload_n 0, 1) := by decide +kernel
theorem dL_say_197 : decode cL_say 197 = .ok (.iload_n 2, 1) := by decide +kernel
theorem dL_say_198 : decode cL_say 198 = .ok (.iload 5, 2) := by decide +kernel
theorem dL_say_200 : decode cL_say 200 = .ok (.iload 6, 2) := by decide +kernel
theorem dL_say_202 : decode cL_say 202 = .ok (.iload 7, 2) := by decide +kernel
theorem dL_say_204 : decode cL_say 204 = .ok (.iload 8, 2) := by decide +kernel
theorem dL_say_206 : decode cL_say 206 = .ok (.invokevirtual 39, 3) := by decide +kernel
theorem dL_say_209 : decode cL_say 209 = .ok (.istore 12, 2) := by decide +kernel
theorem dL_say_211 : decode cL_say 211 = .ok (.aload 10, 2) := by decide +kernel
theorem dL_say_213 : decode cL_say 213 = .ok (.aload 10, 2) := by decide +kernel
theorem dL_say_215 : decode cL_say 215 = .ok (.getfield 35, 3) := by decide +kernel
theorem dL_say_218 : decode cL_say 218 = .ok (.aload 9, 2) := by decide +kernel
theorem dL_say_220 : decode cL_say 220 = .ok (.invokestatic 45, 3) := by decide +kernel
theorem dL_say_223 : decode cL_say 223 = .ok (.putfield 35, 3) := by decide +kernel
theorem dL_say_226 : decode cL_say 226 = .ok (.iload 11, 2) := by decide +kernel
theorem dL_say_228 : decode cL_say 228 = .ok (.ifCond .eq 18, 3) := by decide +kernel
theorem dL_say_231 : decode cL_say 231 = .ok (.iload 12, 2) := by decide +kernel
theorem dL_say_233 : decode cL_say 233 = .ok (.aload 10, 2) := by decide +kernel
theorem dL_say_235 : decode cL_say 235 = .ok (.getfield 35, 3) := by decide +kernel
theorem dL_say_238 : decode cL_say 238 = .ok (.arraylength, 1) := by decide +kernel
theorem dL_say_239 : decode cL_say 239 = .ok (.if_icmp .ne 7, 3) := by decide +kernel
theorem dL_say_242 : decode cL_say 242 = .ok (.iconst 1, 1) := by decide +kernel
theorem dL_say_243 : decode cL_say 243 = .ok (.goto 4, 3) := by decide +kernel
theorem dL_say_246 : decode cL_say 246 = .ok (.iconst 0, 1) := by decide +kernel
theorem dL_say_247 : decode cL_say 247 = .ok (.ireturn, 1) := by decide +kernel
theorem dL_say_248 : decode cL_say 248 = .ok (.astore 12, 2) := by decide +kernel
theorem dL_say_250 : decode cL_say 250 = .ok (.iload 11, 2) := by decide +kernel
theorem dL_say_252 : decode cL_say 252 = .ok (.ifCond .ne 7, 3) := by decide +kernel
theorem dL_say_255 : decode cL_say 255 = .ok (.iconst 1, 1) := by decide +kernel
theorem dL_say_256 : decode cL_say 256 = .ok (.goto 4, 3) := by decide +kernel
theorem dL_say_259 : decode cL_say 259 = .ok (.iconst 0, 1) := by decide +kernel
theorem dL_say_260 : decode cL_say 260 = .ok (.ireturn, 1) := by decide +kernel
theorem dL_build_0 : decode cL_build 0 = .ok (.new 10, 3) := by decide +kernel
theorem dL_build_3 : decode cL_build 3 = .ok (.dup, 1) := by decide +kernel
theorem dL_build_4 : decode cL_build 4 = .ok (.iconst 1, 1) := by decide +kernel
theorem dL_build_5 : decode cL_build 5 = .ok (.aload_n 1, 1) := by decide +kernel
theorem dL_build_6 : decode cL_build 6 = .ok (.iconst 0, 1) := by decide +kernel
theorem dL_build_7 : decode cL_build 7 = .ok (.invokestatic 51, 3) := by decide +kernel
theorem dL_build_10 : decode cL_build 10 = .ok (.bipush 8, 2) := by decide +kernel
theorem dL_build_12 : decode cL_build 12 = .ok (.invokestatic 15, 3) := by decide +kernel
theorem dL_build_15 : decode cL_build 15 = .ok (.iadd, 1) := by decide +kernel
theorem dL_build_16 : decode cL_build 16 = .ok (.invokespecial 55, 3) := by decide +kernel
theorem dL_build_19 : decode cL_build 19 = .ok (.astore_n 2, 1) := by decide +kernel
theorem dL_build_20 : decode cL_build 20 = .ok (.aload_n 0, 1) := by decide +kernel
theorem dL_build_21 : decode cL_build 21 = .ok (.aload_n 2, 1) := by decide +kernel
theorem dL_build_22 : decode cL_build 22 = .ok (.getfield 9, 3) := by decide +kernel
theorem dL_build_25 : decode cL_build 25 = .ok (.arraylength, 1) := by decide +kernel
theorem dL_build_26 : decode cL_build 26 = .ok (.invokevirtual 58, 3) := by decide +kernel
theorem dL_build_29 : decode cL_build 29 = .ok (.bipush 6, 2) := by decide +kernel
theorem dL_build_31 : decode cL_build 31 = .ok (.if_icmp .eq 5, 3) := by decide +kernel
theorem dL_build_34 : decode cL_build 34 = .ok (.aconst_null, 1) := by decide +kernel
theorem dL_build_35 : decode cL_build 35 = .ok (.areturn, 1) := by decide +kernel
theorem dL_build_36 : decode cL_build 36 = .ok (.iconst 1, 1) := by decide +kernel
theorem dL_build_37 : decode cL_build 37 = .ok (.aload_n 1, 1) := by decide +kernel
theorem dL_build_38 : decode cL_build 38 = .ok (.iconst 1, 1) := by decide +kernel
theorem dL_build_39 : decode cL_build 39 = .ok (.invokestatic 51, 3) := by decide +kernel
theorem dL_build_42 : decode cL_build 42 = .ok (.bipush 6, 2) := by decide +kernel
theorem dL_build_44 : decode cL_build 44 = .ok (.invokestatic 15, 3) := by decide +kernel
theorem dL_build_47 : decode cL_build 47 = .ok (.iadd, 1) := by decide +kernel
theorem dL_build_48 : decode cL_build 48 = .ok (.istore_n 3, 1) := by decide +kernel
theorem dL_build_49 : decode cL_build 49 = .ok (.iconst 0, 1) := by decide +kernel
theorem dL_build_50 : decode cL_build 50 = .ok (.istore 4, 2) := by decide +kernel
theorem dL_build_52 : decode cL_build 52 = .ok (.iload 4, 2) := by decide +kernel
theorem dL_build_54 : decode cL_build 54 = .ok (.aload_n 2, 1) := by decide +kernel
theorem dL_build_55 : decode cL_build 55 = .ok (.getfield 9, 3) := by decide +kernel
theorem dL_build_58 : decode cL_build 58 = .ok (.arraylength, 1) := by decide +kernel
theorem dL_build_59 : decode cL_build 59 = .ok (.if_icmp .ge 114, 3) := by decide +kernel
theorem dL_build_62 : decode cL_build 62 = .ok (.aload_n 1, 1) := by decide +kernel
theorem dL_build_63 : decode cL_build 63 = .ok (.iconst 2, 1) := by decide +kernel
theorem dL_build_64 : decode cL_build 64 = .ok (.iload 4, 2) := by decide +kernel
theorem dL_build_66 : decode cL_build 66 = .ok (.iconst 4, 1) := by decide +kernel
theorem dL_build_67 : decode cL_build 67 = .ok (.irem, 1) := by decide +kernel
theorem dL_build_68 : decode cL_build 68 = .ok (.iadd, 1) := by decide +kernel
theorem dL_build_69 : decode cL_build 69 = .ok (.invokestatic 51, 3) := by decide +kernel
theorem dL_build_72 : decode cL_build 72 = .ok (.iload 4, 2) := by decide +kernel
theorem dL_build_74 : decode cL_build 74 = .ok (.ishr, 1) := by decide +kernel
theorem dL_build_75 : decode cL_build 75 = .ok (.istore 5, 2) := by decide +kernel
theorem dL_build_77 : decode cL_build 77 = .ok (.iload 5, 2) := by decide +kernel
theorem dL_build_79 : decode cL_build 79 = .ok (.iconst 3, 1) := by decide +kernel
theorem dL_build_80 : decode cL_build 80 = .ok (.invokestatic 15, 3) := by decide +kernel
theorem dL_build_83 : decode cL_build 83 = .ok (.ifCond .ne 6, 3) := by decide +kernel
theorem dL_build_86 : decode cL_build 86 = .ok (.goto 81, 3) := by decide +kernel
theorem dL_build_89 : decode cL_build 89 = .ok (.iload 5, 2) := by decide +kernel
theorem dL_build_91 : decode cL_build 91 = .ok (.iconst 3, 1) := by decide +kernel
theorem dL_build_92 : decode cL_build 92 = .ok (.ishr, 1) := by decide +kernel
theorem dL_build_93 : decode cL_build 93 = .ok (.iconst 5, 1) := by decide +kernel
theorem dL_build_94 : decode cL_build 94 = .ok (.invokestatic 15, 3) := by decide +kernel
theorem dL_build_97 : decode cL_build 97 = .ok (.ifCond .ne 20, 3) := by decide +kernel
theorem dL_build_100 : decode cL_build 100 = .ok (.sipush 9000, 3) := by decide +kernel
theorem dL_build_103 : decode cL_build 103 = .ok (.iload 5, 2) := by decide +kernel
theorem dL_build_105 : decode cL_build 105 = .ok (.iconst 5, 1) := by decide +kernel
theorem dL_build_106 : decode cL_build 106 = .ok (.ishr, 1) := by decide +kernel
theorem dL_build_107 : decode cL_build 107 = .ok (.sipush 1000, 3) := by decide +kernel
theorem dL_build_110 : decode cL_build 110 = .ok (.invokestatic 15, 3) := by decide +kernel
theorem dL_build_113 : decode cL_build 113 = .ok (.iadd, 1) := by decide +kernel
theorem dL_build_114 : decode cL_build 114 = .ok (.goto 13, 3) := by decide +kernel
theorem dL_build_117 : decode cL_build 117 = .ok (.iload 5, 2) := by decide +kernel
theorem dL_build_119 : decode cL_build 119 = .ok (.iconst 4, 1) := by decide +kernel
theorem dL_build_120 : decode cL_build 120 = .ok (.ishr, 1) := by decide +kernel
theorem dL_build_121 : decode cL_build 121 = .ok (.sipush 200, 3) := by decide +kernel
theorem dL_build_124 : decode cL_build 124 = .ok (.invokestatic 15, 3) := by decide +kernel
theorem dL_build_127 : decode cL_build 127 = .ok (.istore 6, 2) := by decide +kernel
theorem dL_build_129 : decode cL_build 129 = .ok (.aload_n 0, 1) := by decide +kernel
theorem dL_build_130 : decode cL_build 130 = .ok (.iload 4, 2) := by decide +kernel
theorem dL_build_132 : decode cL_build 132 = .ok (.iload 6, 2) := by decide +kernel
theorem dL_build_134 : decode cL_build 134 = .ok (.invokevirtual 62, 3) := by decide +kernel
theorem dL_build_137 : decode cL_build 137 = .ok (.ifCond .eq 5, 3) := by decide +kernel
theorem dL_build_140 : decode cL_build 140 = .ok (.aconst_null, 1) := by decide +kernel
theorem dL_build_141 : decode cL_build 141 = .ok (.areturn, 1) := by decide +kernel
theorem dL_build_142 : decode cL_build 142 = .ok (.aload_n 2, 1) := by decide +kernel
theorem dL_build_143 : decode cL_build 143 = .ok (.iconst (-1), 1) := by decide +kernel
theorem dL_build_144 : decode cL_build 144 = .ok (.iconst 1, 1) := by decide +kernel
theorem dL_build_145 : decode cL_build 145 = .ok (.anewarray 65, 3) := by decide +kernel
theorem dL_build_148 : decode cL_build 148 = .ok (.dup, 1) := by decide +kernel
theorem dL_build_149 : decode cL_build 149 = .ok (.iconst 0, 1) := by decide +kernel
theorem dL_build_150 : decode cL_build 150 = .ok (.iconst 2, 1) := by decide +kernel
theorem dL_build_151 : decode cL_build 151 = .ok (.newarray .int, 2) := by decide +kernel
theorem dL_build_153 : decode cL_build 153 = .ok (.dup, 1) := by decide +kernel
theorem dL_build_154 : decode cL_build 154 = .ok (.iconst 0, 1) := by decide +kernel
theorem dL_build_155 : decode cL_build 155 = .ok (.iload 4, 2) := by decide +kernel
theorem dL_build_157 : decode cL_build 157 = .ok (.iastore, 1) := by decide +kernel
theorem dL_build_158 : decode cL_build 158 = .ok (.dup, 1) := by decide +kernel
theorem dL_build_159 : decode cL_build 159 = .ok (.iconst 1, 1) := by decide +kernel
theorem dL_build_160 : decode cL_build 160 = .ok (.iload 6, 2) := by decide +kernel
theorem dL_build_162 : decode cL_build 162 = .ok (.iastore, 1) := by decide +kernel
theorem dL_build_163 : decode cL_build 163 = .ok (.aastore, 1) := by decide +kernel
theorem dL_build_164 : decode cL_build 164 = .ok (.invokevirtual 66, 3) := by decide +kernel
theorem dL_build_167 : decode cL_build 167 = .ok (.iinc 4 1, 3) := by decide +kernel
theorem dL_build_170 : decode cL_build 170 = .ok (.goto (-118), 3) := by decide +kernel
theorem dL_build_173 : decode cL_build 173 = .ok (.iconst 0, 1) := by decide +kernel
theorem dL_build_174 : decode cL_build 174 = .ok (.istore 4, 2) := by decide +kernel
theorem dL_build_176 : decode cL_build 176 = .ok (.iload 4, 2) := by decide +kernel
theorem dL_build_178 : decode cL_build 178 = .ok (.iload_n 3, 1) := by decide +kernel
theorem dL_build_179 : decode cL_build 179 = .ok (.if_icmp .ge 90, 3) := by decide +kernel
theorem dL_build_182 : decode cL_build 182 = .ok (.aload_n 0, 1) := by decide +kernel
theorem dL_build_183 : decode cL_build 183 = .ok (.invokevirtual 70, 3) := by decide +kernel
theorem dL_build_186 : decode cL_build 186 = .ok (.iload 4, 2) := by decide +kernel
theorem dL_build_188 : decode cL_build 188 = .ok (.if_icmp .eq 5, 3) := by decide +kernel
theorem dL_build_191 : decode cL_build 191 = .ok (.aconst_null, 1) := by decide +kernel
theorem dL_build_192 : decode cL_build 192 = .ok (.areturn, 1) := by decide +kernel
theorem dL_build_193 : decode cL_build 193 = .ok (.aload_n 2, 1) := by decide +kernel
theorem dL_build_194 : decode cL_build 194 = .ok (.invokevirtual 74, 3) := by decide +kernel
theorem dL_build_197 : decode cL_build 197 = .ok (.aload_n 1, 1) := by decide +kernel
theorem dL_build_198 : decode cL_build 198 = .ok (.bipush 6, 2) := by decide +kernel
theorem dL_build_200 : decode cL_build 200 = .ok (.invokestatic 51, 3) := by decide +kernel
theorem dL_build_203 : decode cL_build 203 = .ok (.iconst 2, 1) := by decide +kernel
theorem dL_build_204 : decode cL_build 204 = .ok (.iload 4, 2) := by decide +kernel
theorem dL_build_206 : decode cL_build 206 = .ok (.imul, 1) := by decide +kernel
theorem dL_build_207 : decode cL_build 207 = .ok (.ishr, 1) := by decide +kernel
theorem dL_build_208 : decode cL_build 208 = .ok (.bipush 6, 2) := by decide +kernel
theorem dL_build_210 : decode cL_build 210 = .ok (.invokestatic 15, 3) := by decide +kernel
theorem dL_build_213 : decode cL_build 213 = .ok (.istore 5, 2) := by decide +kernel
theorem dL_build_215 : decode cL_build 215 = .ok (.iconst 0, 1) := by decide +kernel
theorem dL_build_216 : decode cL_build 216 = .ok (.istore 6, 2) := by decide +kernel
theorem dL_build_218 : decode cL_build 218 = .ok (.iload 6, 2) := by decide +kernel
theorem dL_build_220 : decode cL_build 220 = .ok (.iload 5, 2) := by decide +kernel
theorem dL_build_222 : decode cL_build 222 = .ok (.if_icmp .ge 41, 3) := by decide +kernel
theorem dL_build_225 : decode cL_build 225 = .ok (.aload_n 0, 1) := by decide +kernel
theorem dL_build_226 : decode cL_build 226 = .ok (.aload_n 2, 1) := by decide +kernel
theorem dL_build_227 : decode cL_build 227 = .ok (.iload 4, 2) := by decide +kernel
theorem dL_build_229 : decode cL_build 229 = .ok (.aload_n 1, 1) := by decide +kernel
theorem dL_build_230 : decode cL_build 230 = .ok (.bipush 7, 2) := by decide +kernel
theorem dL_build_232 : decode cL_build 232 = .ok (.iload 4, 2) := by decide +kernel
theorem dL_build_234 : decode cL_build 234 = .ok (.iadd, 1) := by decide +kernel
theorem dL_build_235 : decode cL_build 235 = .ok (.invokestatic 51, 3) := by decide +kernel
theorem dL_build_238 : decode cL_build 238 = .ok (.iconst 3, 1) := by decide +kernel
theorem dL_build_239 : decode cL_build 239 = .ok (.iload 6, 2) := by decide +kernel
theorem dL_build_241 : decode cL_build 241 = .ok (.imul, 1) := by decide +kernel
theorem dL_build_242 : decode cL_build 242 = .ok (.ishr, 1) := by decide +kernel
theorem dL_build_243 : decode cL_build 243 = .ok (.bipush 31, 2) := by decide +kernel
theorem dL_build_245 : decode cL_build 245 = .ok (.iload 6, 2) := by decide +kernel
theorem dL_build_247 : decode cL_build 247 = .ok (.imul, 1) := by decide +kernel
theorem dL_build_248 : decode cL_build 248 = .ok (.iadd, 1) := by decide +kernel
theorem dL_build_249 : decode cL_build 249 = .ok (.invokestatic 77, 3) := by decide +kernel
theorem dL_build_252 : decode cL_build 252 = .ok (.ifCond .ne 5, 3) := by decide +kernel
theorem dL_build_255 : decode cL_build 255 = .ok (.aconst_null, 1) := by decide +kernel
theorem dL_build_256 : decode cL_build 256 = .ok (.areturn, 1) := by decide +kernel
theorem dL_build_257 : decode cL_build 257 = .ok (.iinc 6 1, 3) := by decide +kernel
theorem dL_build_260 : decode cL_build 260 = .ok (.goto (-42), 3) := by decide +kernel
theorem dL_build_263 : decode cL_build 263 = .ok (.iinc 4 1, 3) := by decide +kernel
theorem dL_build_266 : decode cL_build 266 = .ok (.goto (-90), 3) := by decide +kernel
theorem dL_build_269 : decode cL_build 269 = .ok (.aload_n 2, 1) := by decide +kernel
theorem dL_build_270 : decode cL_build 270 = .ok (.areturn, 1) := by decide +kernel
theorem dL_act_0 : decode cL_act 0 = .ok (.iload_n 2, 1) := by decide +kernel
theorem dL_act_1 : decode cL_act 1 = .ok (.iconst 4, 1) := by decide +kernel
theorem dL_act_2 : decode cL_act 2 = .ok (.ishr, 1) := by decide +kernel
theorem dL_act_3 : decode cL_act 3 = .ok (.aload_n 1, 1) := by decide +kernel
theorem dL_act_4 : decode cL_act 4 = .ok (.getfield 21, 3) := by decide +kernel
theorem dL_act_7 : decode cL_act 7 = .ok (.arraylength, 1) := by decide +kernel
theorem dL_act_8 : decode cL_act 8 = .ok (.invokestatic 15, 3) := by decide +kernel
theorem dL_act_11 : decode cL_act 11 = .ok (.istore_n 3, 1) := by decide +kernel
theorem dL_act_12 : decode cL_act 12 = .ok (.aload_n 1, 1) := by decide +kernel
theorem dL_act_13 : decode cL_act 13 = .ok (.getfield 21, 3) := by decide +kernel
theorem dL_act_16 : decode cL_act 16 = .ok (.iload_n 3, 1) := by decide +kernel
theorem dL_act_17 : decode cL_act 17 = .ok (.aaload, 1) := by decide +kernel
theorem dL_act_18 : decode cL_act 18 = .ok (.astore 4, 2) := by decide +kernel
theorem dL_act_20 : decode cL_act 20 = .ok (.iload_n 2, 1) := by decide +kernel
theorem dL_act_21 : decode cL_act 21 = .ok (.bipush 14, 2) := by decide +kernel
theorem dL_act_23 : decode cL_act 23 = .ok (.invokestatic 15, 3) := by decide +kernel
theorem dL_act_26 : decode cL_act 26 = .ok (.tableswitch 235 0 8 #[50, 145, 173, 183, 183, 183, 183, 183, 183], 50) := by decide +kernel
theorem dL_act_76 : decode cL_act 76 = .ok (.iload_n 2, 1) := by decide +kernel
theorem dL_act_77 : decode cL_act 77 = .ok (.bipush 6, 2) := by decide +kernel
theorem dL_act_79 : decode cL_act 79 = .ok (.ishr, 1) := by decide +kernel
theorem dL_act_80 : decode cL_act 80 = .ok (.aload_n 1, 1) := by decide +kernel
theorem dL_act_81 : decode cL_act 81 = .ok (.getfield 9, 3) := by decide +kernel
theorem dL_act_84 : decode cL_act 84 = .ok (.arraylength, 1) := by decide +kernel
theorem dL_act_85 : decode cL_act 85 = .ok (.invokestatic 15, 3) := by decide +kernel
theorem dL_act_88 : decode cL_act 88 = .ok (.istore 5, 2) := by decide +kernel
theorem dL_act_90 : decode cL_act 90 = .ok (.iload_n 2, 1) := by decide +kernel
theorem dL_act_91 : decode cL_act 91 = .ok (.iconst 5, 1) := by decide +kernel
theorem dL_act_92 : decode cL_act 92 = .ok (.ishr, 1) := by decide +kernel
theorem dL_act_93 : decode cL_act 93 = .ok (.iconst 4, 1) := by decide +kernel
theorem dL_act_94 : decode cL_act 94 = .ok (.invokestatic 15, 3) := by decide +kernel
theorem dL_act_97 : decode cL_act 97 = .ok (.ifCond .ne 9, 3) := by decide +kernel
theorem dL_act_100 : decode cL_act 100 = .ok (.sipush 9999, 3) := by decide +kernel
theorem dL_act_103 : decode cL_act 103 = .ok (.goto 13, 3) := by decide +kernel
theorem dL_act_106 : decode cL_act 106 = .ok (.iload_n 2, 1) := by decide +kernel
theorem dL_act_107 : decode cL_act 107 = .ok (.bipush 7, 2) := by decide +kernel
theorem dL_act_109 : decode cL_act 109 = .ok (.ishr, 1) := by decide +kernel
theorem dL_act_110 : decode cL_act 110 = .ok (.sipush 300, 3) := by decide +kernel
theorem dL_act_113 : decode cL_act 113 = .ok (.invokestatic 15, 3) := by decide +kernel
theorem dL_act_116 : decode cL_act 116 = .ok (.istore 6, 2) := by decide +kernel
theorem dL_act_118 : decode cL_act 118 = .ok (.aload_n 1, 1) := by decide +kernel
theorem dL_act_119 : decode cL_act 119 = .ok (.getfield 9, 3) := by decide +kernel
theorem dL_act_122 : decode cL_act 122 = .ok (.iload 5, 2) := by decide +kernel
theorem dL_act_124 : decode cL_act 124 = .ok (.iaload, 1) := by decide +kernel
theorem dL_act_125 : decode cL_act 125 = .ok (.istore 7, 2) := by decide +kernel
theorem dL_act_127 : decode cL_act 127 = .ok (.aload_n 1, 1) := by decide +kernel
theorem dL_act_128 : decode cL_act 128 = .ok (.iconst (-1), 1) := by decide +kernel
theorem dL_act_129 : decode cL_act 129 = .ok (.iconst 1, 1) := by decide +kernel
theorem dL_act_130 : decode cL_act 130 = .ok (.anewarray 65, 3) := by decide +kernel
theorem dL_act_133 : decode cL_act 133 = .ok (.dup, 1) := by decide +kernel
theorem dL_act_134 : decode cL_act 134 = .ok (.iconst 0, 1) := by decide +kernel
theorem dL_act_135 : decode cL_act 135 = .ok (.iconst 2, 1) := by decide +kernel
theorem dL_act_136 : decode cL_act 136 = .ok (.newarray .int, 2) := by decide +kernel
theorem dL_act_138 : decode cL_act 138 = .ok (.dup, 1) := by decide +kernel
theorem dL_act_139 : decode cL_act 139 = .ok (.iconst 0, 1) := by decide +kernel
theorem dL_act_140 : decode cL_act 140 = .ok (.iload 5, 2) := by decide +kernel
theorem dL_act_142 : decode cL_act 142 = .ok (.iastore, 1) := by decide +kernel
theorem dL_act_143 : decode cL_act 143 = .ok (.dup, 1) := by decide +kernel
theorem dL_act_144 : decode cL_act 144 = .ok (.iconst 1, 1) := by decide +kernel
theorem dL_act_145 : decode cL_act 145 = .ok (.iload 6, 2) := by decide +kernel
theorem dL_act_147 : decode cL_act 147 = .ok (.iastore, 1) := by decide +kernel
theorem dL_act_148 : decode cL_act 148 = .ok (.aastore, 1) := by decide +kernel
theorem dL_act_149 : decode cL_act 149 = .ok (.invokevirtual 66, 3) := by decide +kernel
theorem dL_act_152 : decode cL_act 152 = .ok (.aload_n 0, 1) := by decide +kernel
theorem dL_act_153 : decode cL_act 153 = .ok (.iload 5, 2) := by decide +kernel
theorem dL_act_155 : decode cL_act 155 = .ok (.iload 6, 2) := by decide +kernel
theorem dL_act_157 : decode cL_act 157 = .ok (.invokevirtual 62, 3) := by decide +kernel
theorem dL_act_160 : decode cL_act 160 = .ok (.iload 7, 2) := by decide +kernel
theorem dL_act_162 : decode cL_act 162 = .ok (.if_icmp .ne 7, 3) := by decide +kernel
theorem dL_act_165 : decode cL_act 165 = .ok (.iconst 1, 1) := by decide +kernel
theorem dL_act_166 : decode cL_act 166 = .ok (.goto 4, 3) := by decide +kernel
theorem dL_act_169 : decode cL_act 169 = .ok (.iconst 0, 1) := by decide +kernel
theorem dL_act_170 : decode cL_act 170 = .ok (.ireturn, 1) := by decide +kernel
theorem dL_act_171 : decode cL_act 171 = .ok (.aload 4, 2) := by decide +kernel
theorem dL_act_173 : decode cL_act 173 = .ok (.getfield 31, 3) := by decide +kernel
theorem dL_act_176 : decode cL_act 176 = .ok (.istore 5, 2) := by decide +kernel
theorem dL_act_178 : decode cL_act 178 = .ok (.aload 4, 2) := by decide +kernel
theorem dL_act_180 : decode cL_act 180 = .ok (.invokevirtual 80, 3) := by decide +kernel
theorem dL_act_183 : decode cL_act 183 = .ok (.aload_n 0, 1) := by decide +kernel
theorem dL_act_184 : decode cL_act 184 = .ok (.iload_n 3, 1) := by decide +kernel
theorem dL_act_185 : decode cL_act 185 = .ok (.invokevirtual 83, 3) := by decide +kernel
theorem dL_act_188 : decode cL_act 188 = .ok (.iload 5, 2) := by decide +kernel
theorem dL_act_190 : decode cL_act 190 = .ok (.if_icmp .ne 7, 3) := by decide +kernel
theorem dL_act_193 : decode cL_act 193 = .ok (.iconst 1, 1) := by decide +kernel
theorem dL_act_194 : decode cL_act 194 = .ok (.goto 4, 3) := by decide +kernel
theorem dL_act_197 : decode cL_act 197 = .ok (.iconst 0, 1) := by decide +kernel
theorem dL_act_198 : decode cL_act 198 = .ok (.ireturn, 1) := by decide +kernel
theorem dL_act_199 : decode cL_act 199 = .ok (.aload_n 0, 1) := by decide +kernel
theorem dL_act_200 : decode cL_act 200 = .ok (.aload_n 1, 1) := by decide +kernel
theorem dL_act_201 : decode cL_act 201 = .ok (.iload_n 3, 1) := by decide +kernel
theorem dL_act_202 : decode cL_act 202 = .ok (.iload_n 2, 1) := by decide +kernel
theorem dL_act_203 : decode cL_act 203 = .ok (.iconst 3, 1) := by decide +kernel
theorem dL_act_204 : decode cL_act 204 = .ok (.ishr, 1) := by decide +kernel
theorem dL_act_205 : decode cL_act 205 = .ok (.invokestatic 77, 3) := by decide +kernel
theorem dL_act_208 : decode cL_act 208 = .ok (.ireturn, 1) := by decide +kernel
theorem dL_act_209 : decode cL_act 209 = .ok (.aload_n 1, 1) := by decide +kernel
theorem dL_act_210 : decode cL_act 210 = .ok (.iload_n 3, 1) := by decide +kernel
theorem dL_act_211 : decode cL_act 211 = .ok (.invokevirtual 86, 3) := by decide +kernel
theorem dL_act_214 : decode cL_act 214 = .ok (.istore 5, 2) := by decide +kernel
theorem dL_act_216 : decode cL_act 216 = .ok (.iload 5, 2) := by decide +kernel
theorem dL_act_218 : decode cL_act 218 = .ok (.ifCond .eq 11, 3) := by decide +kernel
theorem dL_act_221 : decode cL_act 221 = .ok (.aload_n 1, 1) := by decide +kernel
theorem dL_act_222 : decode cL_act 222 = .ok (.iload_n 3, 1) := by decide +kernel
theorem dL_act_223 : decode cL_act 223 = .ok (.invokevirtual 90, 3) := by decide +kernel
theorem dL_act_226 : decode cL_act 226 = .ok (.goto 4, 3) := by decide +kernel
theorem dL_act_229 : decode cL_act 229 = .ok (.iconst (-1), 1) := by decide +kernel
theorem dL_act_230 : decode cL_act 230 = .ok (.istore 6, 2) := by decide +kernel
theorem dL_act_232 : decode cL_act 232 = .ok (.aload_n 0, 1) := by decide +kernel
theorem dL_act_233 : decode cL_act 233 = .ok (.iload_n 3, 1) := by decide +kernel
theorem dL_act_234 : decode cL_act 234 = .ok (.invokevirtual 93, 3) := by decide +kernel
theorem dL_act_237 : decode cL_act 237 = .ok (.iload 6, 2) := by decide +kernel
theorem dL_act_239 : decode cL_act 239 = .ok (.if_icmp .ne 7, 3) := by decide +kernel
theorem dL_act_242 : decode cL_act 242 = .ok (.iconst 1, 1) := by decide +kernel
theorem dL_act_243 : decode cL_act 243 = .ok (.goto 4, 3) := by decide +kernel
theorem dL_act_246 : decode cL_act 246 = .ok (.iconst 0, 1) := by decide +kernel
theorem dL_act_247 : decode cL_act 247 = .ok (.ireturn, 1) := by decide +kernel
theorem dL_act_248 : decode cL_act 248 = .ok (.astore 7, 2) := by decide +kernel
theorem dL_act_250 : decode cL_act 250 = .ok (.iload 5, 2) := by decide +kernel
theorem dL_act_252 : decode cL_act 252 = .ok (.ifCond .ne 7, 3) := by decide +kernel
theorem dL_act_255 : decode cL_act 255 = .ok (.iconst 1, 1) := by decide +kernel
theorem dL_act_256 : decode cL_act 256 = .ok (.goto 4, 3) := by decide +kernel
theorem dL_act_259 : decode cL_act 259 = .ok (.iconst 0, 1) := by decide +kernel
theorem dL_act_260 : decode cL_act 260 = .ok (.ireturn, 1) := by decide +kernel
theorem dL_act_261 : decode cL_act 261 = .ok (.iconst 1, 1) := by decide +kernel
theorem dL_act_262 : decode cL_act 262 = .ok (.iload_n 2, 1) := by decide +kernel
theorem dL_act_263 : decode cL_act 263 = .ok (.bipush 8, 2) := by decide +kernel
theorem dL_act_265 : decode cL_act 265 = .ok (.ishr, 1) := by decide +kernel
theorem dL_act_266 : decode cL_act 266 = .ok (.iload_n 2, 1) := by decide +kernel
theorem dL_act_267 : decode cL_act 267 = .ok (.iconst 5, 1) := by decide +kernel
theorem dL_act_268 : decode cL_act 268 = .ok (.ishr, 1) := by decide +kernel
theorem dL_act_269 : decode cL_act 269 = .ok (.bipush 6, 2) := by decide +kernel
theorem dL_act_271 : decode cL_act 271 = .ok (.invokestatic 15, 3) := by decide +kernel
theorem dL_act_274 : decode cL_act 274 = .ok (.ifCond .ne 8, 3) := by decide +kernel
theorem dL_act_277 : decode cL_act 277 = .ok (.bipush 20, 2) := by decide +kernel
theorem dL_act_279 : decode cL_act 279 = .ok (.goto 4, 3) := by decide +kernel
theorem dL_act_282 : decode cL_act 282 = .ok (.iconst 2, 1) := by decide +kernel
theorem dL_act_283 : decode cL_act 283 = .ok (.invokestatic 15, 3) := by decide +kernel
theorem dL_act_286 : decode cL_act 286 = .ok (.iadd, 1) := by decide +kernel
theorem dL_act_287 : decode cL_act 287 = .ok (.istore 5, 2) := by decide +kernel
theorem dL_act_289 : decode cL_act 289 = .ok (.iconst 0, 1) := by decide +kernel
theorem dL_act_290 : decode cL_act 290 = .ok (.istore 6, 2) := by decide +kernel
theorem dL_act_292 : decode cL_act 292 = .ok (.iconst 0, 1) := by decide +kernel
theorem dL_act_293 : decode cL_act 293 = .ok (.istore 7, 2) := by decide +kernel
theorem dL_act_295 : decode cL_act 295 = .ok (.iload 7, 2) := by decide +kernel
theorem dL_act_297 : decode cL_act 297 = .ok (.iload 5, 2) := by decide +kernel
theorem dL_act_299 : decode cL_act 299 = .ok (.if_icmp .ge 18, 3) := by decide +kernel
theorem dL_act_302 : decode cL_act 302 = .ok (.iload 6, 2) := by decide +kernel
theorem dL_act_304 : decode cL_act 304 = .ok (.aload_n 1, 1) := by decide +kernel
theorem dL_act_305 : decode cL_act 305 = .ok (.invokevirtual 94, 3) := by decide +kernel
theorem dL_act_308 : decode cL_act 308 = .ok (.iadd, 1) := by decide +kernel
theorem dL_act_309 : decode cL_act 309 = .ok (.istore 6, 2) := by decide +kernel
theorem dL_act_311 : decode cL_act 311 = .ok (.iinc 7 1, 3) := by decide +kernel
theorem dL_act_314 : decode cL_act 314 = .ok (.goto (-19), 3) := by decide +kernel
theorem dL_act_317 : decode cL_act 317 = .ok (.aload_n 0, 1) := by decide +kernel
theorem dL_act_318 : decode cL_act 318 = .ok (.iload 5, 2) := by decide +kernel
theorem dL_act_320 : decode cL_act 320 = .ok (.invokevirtual 97, 3) := by decide +kernel
theorem dL_act_323 : decode cL_act 323 = .ok (.iload 6, 2) := by decide +kernel
theorem dL_act_325 : decode cL_act 325 = .ok (.if_icmp .ne 7, 3) := by decide +kernel
theorem dL_act_328 : decode cL_act 328 = .ok (.iconst 1, 1) := by decide +kernel
theorem dL_act_329 : decode cL_act 329 = .ok (.goto 4, 3) := by decide +kernel
theorem dL_act_332 : decode cL_act 332 = .ok (.iconst 0, 1) := by decide +kernel
theorem dL_act_333 : decode cL_act 333 = .ok (.ireturn, 1) := by decide +kernel
theorem dL_law_0 : decode cL_law 0 = .ok (.new 40, 3) := by decide +kernel
theorem dL_law_3 : decode cL_law 3 = .ok (.dup, 1) := by decide +kernel
theorem dL_law_4 : decode cL_law 4 = .ok (.invokespecial 100, 3) := by decide +kernel
theorem dL_law_7 : decode cL_law 7 = .ok (.astore_n 1, 1) := by decide +kernel
theorem dL_law_8 : decode cL_law 8 = .ok (.aload_n 1, 1) := by decide +kernel
theorem dL_law_9 : decode cL_law 9 = .ok (.aload_n 0, 1) := by decide +kernel
theorem dL_law_10 : decode cL_law 10 = .ok (.invokestatic 101, 3) := by decide +kernel
theorem dL_law_13 : decode cL_law 13 = .ok (.astore_n 2, 1) := by decide +kernel
theorem dL_law_14 : decode cL_law 14 = .ok (.aload_n 2, 1) := by decide +kernel
theorem dL_law_15 : decode cL_law 15 = .ok (.ifnonnull 5, 3) := by decide +kernel
theorem dL_law_18 : decode cL_law 18 = .ok (.iconst 0, 1) := by decide +kernel
theorem dL_law_19 : decode cL_law 19 = .ok (.ireturn, 1) := by decide +kernel
theorem dL_law_20 : decode cL_law 20 = .ok (.aload_n 2, 1) := by decide +kernel
theorem dL_law_21 : decode cL_law 21 = .ok (.getfield 9, 3) := by decide +kernel
theorem dL_law_24 : decode cL_law 24 = .ok (.arraylength, 1) := by decide +kernel
theorem dL_law_25 : decode cL_law 25 = .ok (.istore_n 3, 1) := by decide +kernel
theorem dL_law_26 : decode cL_law 26 = .ok (.aload_n 2, 1) := by decide +kernel
theorem dL_law_27 : decode cL_law 27 = .ok (.getfield 21, 3) := by decide +kernel
theorem dL_law_30 : decode cL_law 30 = .ok (.arraylength, 1) := by decide +kernel
theorem dL_law_31 : decode cL_law 31 = .ok (.istore 4, 2) := by decide +kernel
theorem dL_law_33 : decode cL_law 33 = .ok (.iconst 0, 1) := by decide +kernel
theorem dL_law_34 : decode cL_law 34 = .ok (.istore 5, 2) := by decide +kernel
theorem dL_law_36 : decode cL_law 36 = .ok (.iload 5, 2) := by decide +kernel
theorem dL_law_38 : decode cL_law 38 = .ok (.bipush 14, 2) := by decide +kernel
theorem dL_law_40 : decode cL_law 40 = .ok (.if_icmp .ge 812, 3) := by decide +kernel
theorem dL_law_43 : decode cL_law 43 = .ok (.aload_n 0, 1) := by decide +kernel
theorem dL_law_44 : decode cL_law 44 = .ok (.iconst 2, 1) := by decide +kernel
theorem dL_law_45 : decode cL_law 45 = .ok (.iload 5, 2) := by decide +kernel
theorem dL_law_47 : decode cL_law 47 = .ok (.iadd, 1) := by decide +kernel
theorem dL_law_48 : decode cL_law 48 = .ok (.invokestatic 51, 3) := by decide +kernel
theorem dL_law_51 : decode cL_law 51 = .ok (.iconst 1, 1) := by decide +kernel
theorem dL_law_52 : decode cL_law 52 = .ok (.ishr, 1) := by decide +kernel
theorem dL_law_53 : decode cL_law 53 = .ok (.sipush 263, 3) := by decide +kernel
theorem dL_law_56 : decode cL_law 56 = .ok (.iload 5, 2) := by decide +kernel
theorem dL_law_58 : decode cL_law 58 = .ok (.imul, 1) := by decide +kernel
theorem dL_law_59 : decode cL_law 59 = .ok (.iadd, 1) := by decide +kernel
theorem dL_law_60 : decode cL_law 60 = .ok (.istore 6, 2) := by decide +kernel
theorem dL_law_62 : decode cL_law 62 = .ok (.aload_n 1, 1) := by decide +kernel
theorem dL_law_63 : decode cL_law 63 = .ok (.aload_n 2, 1) := by decide +kernel
theorem dL_law_64 : decode cL_law 64 = .ok (.iload 6, 2) := by decide +kernel
theorem dL_law_66 : decode cL_law 66 = .ok (.invokestatic 105, 3) := by decide +kernel
theorem dL_law_69 : decode cL_law 69 = .ok (.ifCond .ne 5, 3) := by decide +kernel
theorem dL_law_72 : decode cL_law 72 = .ok (.iconst 0, 1) := by decide +kernel
theorem dL_law_73 : decode cL_law 73 = .ok (.ireturn, 1) := by decide +kernel
theorem dL_law_74 : decode cL_law 74 = .ok (.aload_n 1, 1) := by decide +kernel
theorem dL_law_75 : decode cL_law 75 = .ok (.invokevirtual 109, 3) := by decide +kernel
theorem dL_law_78 : decode cL_law 78 = .ok (.lstore 7, 2) := by decide +kernel
theorem dL_law_80 : decode cL_law 80 = .ok (.iconst 0, 1) := by decide +kernel
theorem dL_law_81 : decode cL_law 81 = .ok (.istore 9, 2) := by decide +kernel
theorem dL_law_83 : decode cL_law 83 = .ok (.iload 9, 2) := by decide +kernel
theorem dL_law_85 : decode cL_law 85 = .ok (.iload_n 3, 1) := by decide +kernel
theorem dL_law_86 : decode cL_law 86 = .ok (.if_icmp .ge 176, 3) := by decide +kernel
theorem dL_law_89 : decode cL_law 89 = .ok (.aload_n 1, 1) := by decide +kernel
theorem dL_law_90 : decode cL_law 90 = .ok (.iload 9, 2) := by decide +kernel
theorem dL_law_92 : decode cL_law 92 = .ok (.iconst 0, 1) := by decide +kernel
theorem dL_law_93 : decode cL_law 93 = .ok (.invokevirtual 113, 3) := by decide +kernel
theorem dL_law_96 : decode cL_law 96 = .ok (.ifCond .lt 41, 3) := by decide +kernel
theorem dL_law_99 : decode cL_law 99 = .ok (.aload_n 1, 1) := by decide +kernel
theorem dL_law_100 : decode cL_law 100 = .ok (.iload 9, 2) := by decide +kernel
theorem dL_law_102 : decode cL_law 102 = .ok (.iconst 0, 1) := by decide +kernel
theorem dL_law_103 : decode cL_law 103 = .ok (.invokevirtual 113, 3) := by decide +kernel
theorem dL_law_106 : decode cL_law 106 = .ok (.sipush 9999, 3) := by decide +kernel
theorem dL_law_109 : decode cL_law 109 = .ok (.if_icmp .gt 28, 3) := by decide +kernel
theorem dL_law_112 : decode cL_law 112 = .ok (.aload_n 1, 1) := by decide +kernel
theorem dL_law_113 : decode cL_law 113 = .ok (.iload 9, 2) := by decide +kernel
theorem dL_law_115 : decode cL_law 115 = .ok (.iconst 1, 1) := by decide +kernel
theorem dL_law_116 : decode cL_law 116 = .ok (.invokevirtual 113, 3) := by decide +kernel
theorem dL_law_119 : decode cL_law 119 = .ok (.ifCond .lt 18, 3) := by decide +kernel
theorem dL_law_122 : decode cL_law 122 = .ok (.aload_n 1, 1) := by decide +kernel
theorem dL_law_123 : decode cL_law 123 = .ok (.iload 9, 2) := by decide +kernel
theorem dL_law_125 : decode cL_law 125 = .ok (.iconst 1, 1) := by decide +kernel
theorem dL_law_126 : decode cL_law 126 = .ok (.invokevirtual 113, 3) := by decide +kernel
theorem dL_law_129 : decode cL_law 129 = .ok (.aload_n 1, 1) := by decide +kernel
theorem dL_law_130 : decode cL_law 130 = .ok (.iconst 3, 1) := by decide +kernel
theorem dL_law_131 : decode cL_law 131 = .ok (.invokevirtual 116, 3) := by decide +kernel
theorem dL_law_134 : decode cL_law 134 = .ok (.if_icmp .le 5, 3) := by decide +kernel
theorem dL_law_137 : decode cL_law 137 = .ok (.iconst 0, 1) := by decide +kernel
theorem dL_law_138 : decode cL_law 138 = .ok (.ireturn, 1) := by decide +kernel
theorem dL_law_139 : decode cL_law 139 = .ok (.iconst 0, 1) := by decide +kernel
theorem dL_law_140 : decode cL_law 140 = .ok (.istore 10, 2) := by decide +kernel
theorem dL_law_142 : decode cL_law 142 = .ok (.iload 10, 2) := by decide +kernel
theorem dL_law_144 : decode cL_law 144 = .ok (.iload 4, 2) := by decide +kernel
theorem dL_law_146 : decode cL_law 146 = .ok (.if_icmp .ge 110, 3) := by decide +kernel
theorem dL_law_149 : decode cL_law 149 = .ok (.aload_n 1, 1) := by decide +kernel
theorem dL_law_150 : decode cL_law 150 = .ok (.iload 10, 2) := by decide +kernel
theorem dL_law_152 : decode cL_law 152 = .ok (.iload 9, 2) := by decide +kernel
theorem dL_law_154 : decode cL_law 154 = .ok (.iconst 1, 1) := by decide +kernel
theorem dL_law_155 : decode cL_law 155 = .ok (.invokevirtual 119, 3) := by decide +kernel
theorem dL_law_158 : decode cL_law 158 = .ok (.istore 11, 2) := by decide +kernel
theorem dL_law_160 : decode cL_law 160 = .ok (.iload 11, 2) := by decide +kernel
theorem dL_law_162 : decode cL_law 162 = .ok (.ifCond .ge 7, 3) := by decide +kernel
theorem dL_law_165 : decode cL_law 165 = .ok (.iconst 1, 1) := by decide +kernel
theorem dL_law_166 : decode cL_law 166 = .ok (.goto 4, 3) := by decide +kernel
theorem dL_law_169 : decode cL_law 169 = .ok (.iconst 0, 1) := by decide +kernel
theorem dL_law_170 : decode cL_law 170 = .ok (.aload_n 1, 1) := by decide +kernel
theorem dL_law_171 : decode cL_law 171 = .ok (.iload 10, 2) := by decide +kernel
theorem dL_law_173 : decode cL_law 173 = .ok (.iload 9, 2) := by decide +kernel
theorem dL_law_175 : decode cL_law 175 = .ok (.iconst 0, 1) := by decide +kernel
theorem dL_law_176 : decode cL_law 176 = .ok (.invokevirtual 119, 3) := by decide +kernel
theorem dL_law_179 : decode cL_law 179 = .ok (.ifCond .ge 7, 3) := by decide +kernel
theorem dL_law_182 : decode cL_law 182 = .ok (.iconst 1, 1) := by decide +kernel
theorem dL_law_183 : decode cL_law 183 = .ok (.goto 4, 3) := by decide +kernel
theorem dL_law_186 : decode cL_law 186 = .ok (.iconst 0, 1) := by decide +kernel
theorem dL_law_187 : decode cL_law 187 = .ok (.if_icmp .ne 61, 3) := by decide +kernel
theorem dL_law_190 : decode cL_law 190 = .ok (.iload 11, 2) := by decide +kernel
theorem dL_law_192 : decode cL_law 192 = .ok (.aload_n 1, 1) := by decide +kernel
theorem dL_law_193 : decode cL_law 193 = .ok (.iload 9, 2) := by decide +kernel
theorem dL_law_195 : decode cL_law 195 = .ok (.iconst 1, 1) := by decide +kernel
theorem dL_law_196 : decode cL_law 196 = .ok (.invokevirtual 113, 3) := by decide +kernel
theorem dL_law_199 : decode cL_law 199 = .ok (.if_icmp .gt 49, 3) := by decide +kernel
theorem dL_law_202 : decode cL_law 202 = .ok (.iload 11, 2) := by decide +kernel
theorem dL_law_204 : decode cL_law 204 = .ok (.aload_n 1, 1) := by decide +kernel
theorem dL_law_205 : decode cL_law 205 = .ok (.iload 9, 2) := by decide +kernel
theorem dL_law_207 : decode cL_law 207 = .ok (.iconst 1, 1) := by decide +kernel
theorem dL_law_208 : decode cL_law 208 = .ok (.invokevirtual 113, 3) := by decide +kernel
theorem dL_law_211 : decode cL_law 211 = .ok (.if_icmp .ne 22, 3) := by decide +kernel
theorem dL_law_214 : decode cL_law 214 = .ok (.aload_n 1, 1) := by decide +kernel
theorem dL_law_215 : decode cL_law 215 = .ok (.iload 10, 2) := by decide +kernel
theorem dL_law_217 : decode cL_law 217 = .ok (.iload 9, 2) := by decide +kernel
theorem dL_law_219 : decode cL_law 219 = .ok (.iconst 0, 1) := by decide +kernel
theorem dL_law_220 : decode cL_law 220 = .ok (.invokevirtual 119, 3) := by decide +kernel
theorem dL_law_223 : decode cL_law 223 = .ok (.aload_n 1, 1) := by decide +kernel
theorem dL_law_224 : decode cL_law 224 = .ok (.iload 9, 2) := by decide +kernel
theorem dL_law_226 : decode cL_law 226 = .ok (.iconst 0, 1) := by decide +kernel
theorem dL_law_227 : decode cL_law 227 = .ok (.invokevirtual 113, 3) := by decide +kernel
theorem dL_law_230 : decode cL_law 230 = .ok (.if_icmp .ne 18, 3) := by decide +kernel
theorem dL_law_233 : decode cL_law 233 = .ok (.aload_n 1, 1) := by decide +kernel
theorem dL_law_234 : decode cL_law 234 = .ok (.iload 10, 2) := by decide +kernel
theorem dL_law_236 : decode cL_law 236 = .ok (.iload 9, 2) := by decide +kernel
theorem dL_law_238 : decode cL_law 238 = .ok (.iconst 2, 1) := by decide +kernel
theorem dL_law_239 : decode cL_law 239 = .ok (.invokevirtual 119, 3) := by decide +kernel
theorem dL_law_242 : decode cL_law 242 = .ok (.sipush 9999, 3) := by decide +kernel
theorem dL_law_245 : decode cL_law 245 = .ok (.if_icmp .le 5, 3) := by decide +kernel
theorem dL_law_248 : decode cL_law 248 = .ok (.iconst 0, 1) := by decide +kernel
theorem dL_law_249 : decode cL_law 249 = .ok (.ireturn, 1) := by decide +kernel
theorem dL_law_250 : decode cL_law 250 = .ok (.iinc 10 1, 3) := by decide +kernel
theorem dL_law_253 : decode cL_law 253 = .ok (.goto (-111), 3) := by decide +kernel
theorem dL_law_256 : decode cL_law 256 = .ok (.iinc 9 1, 3) := by decide +kernel
theorem dL_law_259 : decode cL_law 259 = .ok (.goto (-176), 3) := by decide +kernel
theorem dL_law_262 : decode cL_law 262 = .ok (.aload_n 1, 1) := by decide +kernel
theorem dL_law_263 : decode cL_law 263 = .ok (.invokevirtual 123, 3) := by decide +kernel
theorem dL_law_266 : decode cL_law 266 = .ok (.istore 9, 2) := by decide +kernel
theorem dL_law_268 : decode cL_law 268 = .ok (.iconst 1, 1) := by decide +kernel
theorem dL_law_269 : decode cL_law 269 = .ok (.iload 6, 2) := by decide +kernel
theorem dL_law_271 : decode cL_law 271 = .ok (.iconst 4, 1) := by decide +kernel
theorem dL_law_272 : decode cL_law 272 = .ok (.ishr, 1) := by decide +kernel
theorem dL_law_273 : decode cL_law 273 = .ok (.iconst 5, 1) := by decide +kernel
theorem dL_law_274 : decode cL_law 274 = .ok (.invokestatic 15, 3) := by decide +kernel
theorem dL_law_277 : decode cL_law 277 = .ok (.iadd, 1) := by decide +kernel
theorem dL_law_278 : decode cL_law 278 = .ok (.istore 10, 2) := by decide +kernel
theorem dL_law_280 : decode cL_law 280 = .ok (.bipush 7, 2) := by decide +kernel
theorem dL_law_282 : decode cL_law 282 = .ok (.newarray .int, 2) := by decide +kernel
theorem dL_law_284 : decode cL_law 284 = .ok (.astore 11, 2) := by decide +kernel
theorem dL_law_286 : decode cL_law 286 = .ok (.iconst 2, 1) := by decide +kernel
theorem dL_law_287 : decode cL_law 287 = .ok (.istore 12, 2) := by decide +kernel
theorem dL_law_289 : decode cL_law 289 = .ok (.iload 12, 2) := by decide +kernel
theorem dL_law_291 : decode cL_law 291 = .ok (.bipush 7, 2) := by decide +kernel
theorem dL_law_293 : decode cL_law 293 = .ok (.if_icmp .ge 22, 3) := by decide +kernel
theorem dL_law_296 : decode cL_law 296 = .ok (.aload 11, 2) := by decide +kernel
theorem dL_law_298 : decode cL_law 298 = .ok (.iload 12, 2) := by decide +kernel
theorem dL_law_300 : decode cL_law 300 = .ok (.aload_n 1, 1) := by decide +kernel
theorem dL_law_301 : decode cL_law 301 = .ok (.iload 10, 2) := by decide +kernel
theorem dL_law_303 : decode cL_law 303 = .ok (.iload 12, 2) := by decide +kernel
theorem dL_law_305 : decode cL_law 305 = .ok (.invokevirtual 126, 3) := by decide +kernel
theorem dL_law_308 : decode cL_law 308 = .ok (.iastore, 1) := by decide +kernel
theorem dL_law_309 : decode cL_law 309 = .ok (.iinc 12 1, 3) := by decide +kernel
theorem dL_law_312 : decode cL_law 312 = .ok (.goto (-23), 3) := by decide +kernel
theorem dL_law_315 : decode cL_law 315 = .ok (.aload_n 1, 1) := by decide +kernel
theorem dL_law_316 : decode cL_law 316 = .ok (.invokevirtual 109, 3) := by decide +kernel
theorem dL_law_319 : decode cL_law 319 = .ok (.lload 7, 2) := by decide +kernel
theorem dL_law_321 : decode cL_law 321 = .ok (.lcmp, 1) := by decide +kernel
theorem dL_law_322 : decode cL_law 322 = .ok (.ifCond .eq 5, 3) := by decide +kernel
theorem dL_law_325 : decode cL_law 325 = .ok (.iconst 0, 1) := by decide +kernel
theorem dL_law_326 : decode cL_law 326 = .ok (.ireturn, 1) := by decide +kernel
theorem dL_law_327 : decode cL_law 327 = .ok (.iconst 0, 1) := by decide +kernel
theorem dL_law_328 : decode cL_law 328 = .ok (.istore 12, 2) := by decide +kernel
theorem dL_law_330 : decode cL_law 330 = .ok (.iload 12, 2) := by decide +kernel
theorem dL_law_332 : decode cL_law 332 = .ok (.iload 10, 2) := by decide +kernel
theorem dL_law_334 : decode cL_law 334 = .ok (.if_icmp .ge 480, 3) := by decide +kernel
theorem dL_law_337 : decode cL_law 337 = .ok (.iconst 0, 1) := by decide +kernel
theorem dL_law_338 : decode cL_law 338 = .ok (.istore 13, 2) := by decide +kernel
theorem dL_law_340 : decode cL_law 340 = .ok (.iload 13, 2) := by decide +kernel
theorem dL_law_342 : decode cL_law 342 = .ok (.iload 4, 2) := by decide +kernel
theorem dL_law_344 : decode cL_law 344 = .ok (.if_icmp .ge 441, 3) := by decide +kernel
theorem dL_law_347 : decode cL_law 347 = .ok (.aload_n 1, 1) := by decide +kernel
theorem dL_law_348 : decode cL_law 348 = .ok (.iload 13, 2) := by decide +kernel
theorem dL_law_350 : decode cL_law 350 = .ok (.iconst 2, 1) := by decide +kernel
theorem dL_law_351 : decode cL_law 351 = .ok (.invokevirtual 129, 3) := by decide +kernel
theorem dL_law_354 : decode cL_law 354 = .ok (.iconst 1, 1) := by decide +kernel
theorem dL_law_355 : decode cL_law 355 = .ok (.if_icmp .eq 424, 3) := by decide +kernel
theorem dL_law_358 : decode cL_law 358 = .ok (.aload_n 1, 1) := by decide +kernel
theorem dL_law_359 : decode cL_law 359 = .ok (.iload 13, 2) := by decide +kernel
theorem dL_law_361 : decode cL_law 361 = .ok (.iconst 0, 1) := by decide +kernel
theorem dL_law_362 : decode cL_law 362 = .ok (.invokevirtual 129, 3) := by decide +kernel
theorem dL_law_365 : decode cL_law 365 = .ok (.ifCond .ne 6, 3) := by decide +kernel
theorem dL_law_368 : decode cL_law 368 = .ok (.goto 411, 3) := by decide +kernel
theorem dL_law_371 : decode cL_law 371 = .ok (.aload_n 1, 1) := by decide +kernel
theorem dL_law_372 : decode cL_law 372 = .ok (.iload 13, 2) := by decide +kernel
theorem dL_law_374 : decode cL_law 374 = .ok (.iconst 1, 1) := by decide +kernel
theorem dL_law_375 : decode cL_law 375 = .ok (.invokevirtual 129, 3) := by decide +kernel
theorem dL_law_378 : decode cL_law 378 = .ok (.aload_n 1, 1) := by decide +kernel
theorem dL_law_379 : decode cL_law 379 = .ok (.iload 13, 2) := by decide +kernel
theorem dL_law_381 : decode cL_law 381 = .ok (.iconst 0, 1) := by decide +kernel
theorem dL_law_382 : decode cL_law 382 = .ok (.invokevirtual 129, 3) := by decide +kernel
theorem dL_law_385 : decode cL_law 385 = .ok (.if_icmp .ne 7, 3) := by decide +kernel
theorem dL_law_388 : decode cL_law 388 = .ok (.iconst 1, 1) := by decide +kernel
theorem dL_law_389 : decode cL_law 389 = .ok (.goto 4, 3) := by decide +kernel
theorem dL_law_392 : decode cL_law 392 = .ok (.iconst 0, 1) := by decide +kernel
theorem dL_law_393 : decode cL_law 393 = .ok (.istore 14, 2) := by decide +kernel
theorem dL_law_395 : decode cL_law 395 = .ok (.aload_n 1, 1) := by decide +kernel
theorem dL_law_396 : decode cL_law 396 = .ok (.iload 13, 2) := by decide +kernel
theorem dL_law_398 : decode cL_law 398 = .ok (.bipush 6, 2) := by decide +kernel
theorem dL_law_400 : decode cL_law 400 = .ok (.invokevirtual 129, 3) := by decide +kernel
theorem dL_law_403 : decode cL_law 403 = .ok (.iconst 1, 1) := by decide +kernel
theorem dL_law_404 : decode cL_law 404 = .ok (.if_icmp .ne 7, 3) := by decide +kernel
theorem dL_law_407 : decode cL_law 407 = .ok (.iconst 1, 1) := by decide +kernel
theorem dL_law_408 : decode cL_law 408 = .ok (.goto 4, 3) := by decide +kernel
theorem dL_law_411 : decode cL_law 411 = .ok (.iconst 0, 1) := by decide +kernel
theorem dL_law_412 : decode cL_law 412 = .ok (.istore 15, 2) := by decide +kernel
theorem dL_law_414 : decode cL_law 414 = .ok (.iload_n 3, 1) := by decide +kernel
theorem dL_law_415 : decode cL_law 415 = .ok (.newarray .int, 2) := by decide +kernel
theorem dL_law_417 : decode cL_law 417 = .ok (.astore 16, 2) := by decide +kernel
theorem dL_law_419 : decode cL_law 419 = .ok (.iload_n 3, 1) := by decide +kernel
theorem dL_law_420 : decode cL_law 420 = .ok (.newarray .int, 2) := by decide +kernel
theorem dL_law_422 : decode cL_law 422 = .ok (.astore 17, 2) := by decide +kernel
theorem dL_law_424 : decode cL_law 424 = .ok (.iload_n 3, 1) := by decide +kernel
theorem dL_law_425 : decode cL_law 425 = .ok (.newarray .int, 2) := by decide +kernel
theorem dL_law_427 : decode cL_law 427 = .ok (.astore 18, 2) := by decide +kernel
theorem dL_law_429 : decode cL_law 429 = .ok (.iload 4, 2) := by decide +kernel
theorem dL_law_431 : decode cL_law 431 = .ok (.newarray .boolean, 2) := by decide +kernel
theorem dL_law_433 : decode cL_law 433 = .ok (.astore 19, 2) := by decide +kernel
theorem dL_law_435 : decode cL_law 435 = .ok (.aload_n 1, 1) := by decide +kernel
theorem dL_law_436 : decode cL_law 436 = .ok (.iload 13, 2) := by decide +kernel
theorem dL_law_438 : decode cL_law 438 = .ok (.iconst 5, 1) := by decide +kernel
theorem dL_law_439 : decode cL_law 439 = .ok (.invokevirtual 129, 3) := by decide +kernel
theorem dL_law_442 : decode cL_law 442 = .ok (.istore 20, 2) := by decide +kernel
theorem dL_law_444 : decode cL_law 444 = .ok (.iconst 0, 1) := by decide +kernel
theorem dL_law_445 : decode cL_law 445 = .ok (.istore 21, 2) := by decide +kernel
theorem dL_law_447 : decode cL_law 447 = .ok (.iload 21, 2) := by decide +kernel
theorem dL_law_449 : decode cL_law 449 = .ok (.iload_n 3, 1) := by decide +kernel
theorem dL_law_450 : decode cL_law 450 = .ok (.if_icmp .ge 46, 3) := by decide +kernel
theorem dL_law_453 : decode cL_law 453 = .ok (.aload 16, 2) := by decide +kernel
theorem dL_law_455 : decode cL_law 455 = .ok (.iload 21, 2) := by decide +kernel
theorem dL_law_457 : decode cL_law 457 = .ok (.aload_n 1, 1) := by decide +kernel
theorem dL_law_458 : decode cL_law 458 = .ok (.iload 13, 2) := by decide +kernel
theorem dL_law_460 : decode cL_law 460 = .ok (.iload 21, 2) := by decide +kernel
theorem dL_law_462 : decode cL_law 462 = .ok (.invokevirtual 132, 3) := by decide +kernel
theorem dL_law_465 : decode cL_law 465 = .ok (.iastore, 1) := by decide +kernel
theorem dL_law_466 : decode cL_law 466 = .ok (.aload 17, 2) := by decide +kernel
theorem dL_law_468 : decode cL_law 468 = .ok (.iload 21, 2) := by decide +kernel
theorem dL_law_470 : decode cL_law 470 = .ok (.aload_n 1, 1) := by decide +kernel
theorem dL_law_471 : decode cL_law 471 = .ok (.iload 21, 2) := by decide +kernel
theorem dL_law_473 : decode cL_law 473 = .ok (.iconst 0, 1) := by decide +kernel
theorem dL_law_474 : decode cL_law 474 = .ok (.invokevirtual 113, 3) := by decide +kernel
theorem dL_law_477 : decode cL_law 477 = .ok (.iastore, 1) := by decide +kernel
theorem dL_law_478 : decode cL_law 478 = .ok (.aload 18, 2) := by decide +kernel
theorem dL_law_480 : decode cL_law 480 = .ok (.iload 21, 2) := by decide +kernel
theorem dL_law_482 : decode cL_law 482 = .ok (.aload_n 1, 1) := by decide +kernel
theorem dL_law_483 : decode cL_law 483 = .ok (.iload 21, 2) := by decide +kernel
theorem dL_law_485 : decode cL_law 485 = .ok (.iconst 1, 1) := by decide +kernel
theorem dL_law_486 : decode cL_law 486 = .ok (.invokevirtual 113, 3) := by decide +kernel
theorem dL_law_489 : decode cL_law 489 = .ok (.iastore, 1) := by decide +kernel
theorem dL_law_490 : decode cL_law 490 = .ok (.iinc 21 1, 3) := by decide +kernel
theorem dL_law_493 : decode cL_law 493 = .ok (.goto (-46), 3) := by decide +kernel
theorem dL_law_496 : decode cL_law 496 = .ok (.iconst 0, 1) := by decide +kernel
theorem dL_law_497 : decode cL_law 497 = .ok (.istore 21, 2) := by decide +kernel
theorem dL_law_499 : decode cL_law 499 = .ok (.iload 21, 2) := by decide +kernel
theorem dL_law_501 : decode cL_law 501 = .ok (.iload 4, 2) := by decide +kernel
theorem dL_law_503 : decode cL_law 503 = .ok (.if_icmp .ge 22, 3) := by decide +kernel
theorem dL_law_506 : decode cL_law 506 = .ok (.aload 19, 2) := by decide +kernel
theorem dL_law_508 : decode cL_law 508 = .ok (.iload 21, 2) := by decide +kernel
theorem dL_law_510 : decode cL_law 510 = .ok (.aload_n 1, 1) := by decide +kernel
theorem dL_law_511 : decode cL_law 511 = .ok (.iload 13, 2) := by decide +kernel
theorem dL_law_513 : decode cL_law 513 = .ok (.iload 21, 2) := by decide +kernel
theorem dL_law_515 : decode cL_law 515 = .ok (.invokevirtual 135, 3) := by decide +kernel
theorem dL_law_518 : decode cL_law 518 = .ok (.bastore, 1) := by decide +kernel
theorem dL_law_519 : decode cL_law 519 = .ok (.iinc 21 1, 3) := by decide +kernel
theorem dL_law_522 : decode cL_law 522 = .ok (.goto (-23), 3) := by decide +kernel
theorem dL_law_525 : decode cL_law 525 = .ok (.aload_n 1, 1) := by decide +kernel
theorem dL_law_526 : decode cL_law 526 = .ok (.iload 13, 2) := by decide +kernel
theorem dL_law_528 : decode cL_law 528 = .ok (.invokevirtual 93, 3) := by decide +kernel
theorem dL_law_531 : decode cL_law 531 = .ok (.istore 21, 2) := by decide +kernel
theorem dL_law_533 : decode cL_law 533 = .ok (.aload_n 2, 1) := by decide +kernel
theorem dL_law_534 : decode cL_law 534 = .ok (.iload 13, 2) := by decide +kernel
theorem dL_law_536 : decode cL_law 536 = .ok (.invokevirtual 90, 3) := by decide +kernel
theorem dL_law_539 : decode cL_law 539 = .ok (.iload 21, 2) := by decide +kernel
theorem dL_law_541 : decode cL_law 541 = .ok (.if_icmp .ne 27, 3) := by decide +kernel
theorem dL_law_544 : decode cL_law 544 = .ok (.iload 21, 2) := by decide +kernel
theorem dL_law_546 : decode cL_law 546 = .ok (.iload 14, 2) := by decide +kernel
theorem dL_law_548 : decode cL_law 548 = .ok (.ifCond .ne 7, 3) := by decide +kernel
theorem dL_law_551 : decode cL_law 551 = .ok (.iconst 0, 1) := by decide +kernel
theorem dL_law_552 : decode cL_law 552 = .ok (.goto 13, 3) := by decide +kernel
theorem dL_law_555 : decode cL_law 555 = .ok (.iload 15, 2) := by decide +kernel
theorem dL_law_557 : decode cL_law 557 = .ok (.ifCond .eq 7, 3) := by decide +kernel
theorem dL_law_560 : decode cL_law 560 = .ok (.iconst 2, 1) := by decide +kernel
theorem dL_law_561 : decode cL_law 561 = .ok (.goto 4, 3) := by decide +kernel
theorem dL_law_564 : decode cL_law 564 = .ok (.iconst 1, 1) := by decide +kernel
theorem dL_law_565 : decode cL_law 565 = .ok (.if_icmp .eq 5, 3) := by decide +kernel
theorem dL_law_568 : decode cL_law 568 = .ok (.iconst 0, 1) := by decide +kernel
theorem dL_law_569 : decode cL_law 569 = .ok (.ireturn, 1) := by decide +kernel
theorem dL_law_570 : decode cL_law 570 = .ok (.iconst 0, 1) := by decide +kernel
theorem dL_law_571 : decode cL_law 571 = .ok (.istore 22, 2) := by decide +kernel
theorem dL_law_573 : decode cL_law 573 = .ok (.iconst 0, 1) := by decide +kernel
theorem dL_law_574 : decode cL_law 574 = .ok (.istore 23, 2) := by decide +kernel
theorem dL_law_576 : decode cL_law 576 = .ok (.iload 23, 2) := by decide +kernel
theorem dL_law_578 : decode cL_law 578 = .ok (.iload_n 3, 1) := by decide +kernel
theorem dL_law_579 : decode cL_law 579 = .ok (.if_icmp .ge 95, 3) := by decide +kernel
theorem dL_law_582 : decode cL_law 582 = .ok (.iload 22, 2) := by decide +kernel
theorem dL_law_584 : decode cL_law 584 = .ok (.aload_n 1, 1) := by decide +kernel
theorem dL_law_585 : decode cL_law 585 = .ok (.iload 23, 2) := by decide +kernel
theorem dL_law_587 : decode cL_law 587 = .ok (.iconst 1, 1) := by decide +kernel
theorem dL_law_588 : decode cL_law 588 = .ok (.invokevirtual 113, 3) := by decide +kernel
theorem dL_law_591 : decode cL_law 591 = .ok (.aload 18, 2) := by decide +kernel
theorem dL_law_593 : decode cL_law 593 = .ok (.iload 23, 2) := by decide +kernel
theorem dL_law_595 : decode cL_law 595 = .ok (.iaload, 1) := by decide +kernel
theorem dL_law_596 : decode cL_law 596 = .ok (.if_icmp .eq 7, 3) := by decide +kernel
theorem dL_law_599 : decode cL_law 599 = .ok (.iconst 1, 1) := by decide +kernel
theorem dL_law_600 : decode cL_law 600 = .ok (.goto 4, 3) := by decide +kernel
theorem dL_law_603 : decode cL_law 603 = .ok (.iconst 0, 1) := by decide +kernel
theorem dL_law_604 : decode cL_law 604 = .ok (.iadd, 1) := by decide +kernel
theorem dL_law_605 : decode cL_law 605 = .ok (.istore 22, 2) := by decide +kernel
theorem dL_law_607 : decode cL_law 607 = .ok (.aload_n 1, 1) := by decide +kernel
theorem dL_law_608 : decode cL_law 608 = .ok (.iload 23, 2) := by decide +kernel
theorem dL_law_610 : decode cL_law 610 = .ok (.iconst 0, 1) := by decide +kernel
theorem dL_law_611 : decode cL_law 611 = .ok (.invokevirtual 113, 3) := by decide +kernel
theorem dL_law_614 : decode cL_law 614 = .ok (.iload 21, 2) := by decide +kernel
theorem dL_law_616 : decode cL_law 616 = .ok (.iconst 1, 1) := by decide +kernel
theorem dL_law_617 : decode cL_law 617 = .ok (.if_icmp .ne 11, 3) := by decide +kernel
theorem dL_law_620 : decode cL_law 620 = .ok (.aload 16, 2) := by decide +kernel
theorem dL_law_622 : decode cL_law 622 = .ok (.iload 23, 2) := by decide +kernel
theorem dL_law_624 : decode cL_law 624 = .ok (.iaload, 1) := by decide +kernel
theorem dL_law_625 : decode cL_law 625 = .ok (.goto 8, 3) := by decide +kernel
theorem dL_law_628 : decode cL_law 628 = .ok (.aload 17, 2) := by decide +kernel
theorem dL_law_630 : decode cL_law 630 = .ok (.iload 23, 2) := by decide +kernel
theorem dL_law_632 : decode cL_law 632 = .ok (.iaload, 1) := by decide +kernel
theorem dL_law_633 : decode cL_law 633 = .ok (.if_icmp .ne 33, 3) := by decide +kernel
theorem dL_law_636 : decode cL_law 636 = .ok (.aload_n 1, 1) := by decide +kernel
theorem dL_law_637 : decode cL_law 637 = .ok (.iload 23, 2) := by decide +kernel
theorem dL_law_639 : decode cL_law 639 = .ok (.iconst 1, 1) := by decide +kernel
theorem dL_law_640 : decode cL_law 640 = .ok (.invokevirtual 113, 3) := by decide +kernel
theorem dL_law_643 : decode cL_law 643 = .ok (.aload 18, 2) := by decide +kernel
theorem dL_law_645 : decode cL_law 645 = .ok (.iload 23, 2) := by decide +kernel
theorem dL_law_647 : decode cL_law 647 = .ok (.iaload, 1) := by decide +kernel
theorem dL_law_648 : decode cL_law 648 = .ok (.if_icmp .ne 20, 3) := by decide +kernel
theorem dL_law_651 : decode cL_law 651 = .ok (.aload_n 1, 1) := by decide +kernel
theorem dL_law_652 : decode cL_law 652 = .ok (.iload 23, 2) := by decide +kernel
theorem dL_law_654 : decode cL_law 654 = .ok (.iconst 0, 1) := by decide +kernel
theorem dL_law_655 : decode cL_law 655 = .ok (.invokevirtual 113, 3) := by decide +kernel
theorem dL_law_658 : decode cL_law 658 = .ok (.aload 17, 2) := by decide +kernel
theorem dL_law_660 : decode cL_law 660 = .ok (.iload 23, 2) := by decide +kernel
theorem dL_law_662 : decode cL_law 662 = .ok (.iaload, 1) := by decide +kernel
theorem dL_law_663 : decode cL_law 663 = .ok (.if_icmp .eq 5, 3) := by decide +kernel
theorem dL_law_666 : decode cL_law 666 = .ok (.iconst 0, 1) := by decide +kernel
theorem dL_law_667 : decode cL_law 667 = .ok (.ireturn, 1) := by decide +kernel
theorem dL_law_668 : decode cL_law 668 = .ok (.iinc 23 1, 3) := by decide +kernel
theorem dL_law_671 : decode cL_law 671 = .ok (.goto (-95), 3) := by decide +kernel
theorem dL_law_674 : decode cL_law 674 = .ok (.iload 22, 2) := by decide +kernel
theorem dL_law_676 : decode cL_law 676 = .ok (.iload 21, 2) := by decide +kernel
theorem dL_law_678 : decode cL_law 678 = .ok (.iconst 1, 1) := by decide +kernel
theorem dL_law_679 : decode cL_law 679 = .ok (.if_icmp .ne 8, 3) := by decide +kernel
theorem dL_law_682 : decode cL_law 682 = .ok (.iload 20, 2) := by decide +kernel
theorem dL_law_684 : decode cL_law 684 = .ok (.goto 4, 3) := by decide +kernel
theorem dL_law_687 : decode cL_law 687 = .ok (.iconst 0, 1) := by decide +kernel
theorem dL_law_688 : decode cL_law 688 = .ok (.if_icmp .ne 45, 3) := by decide +kernel
theorem dL_law_691 : decode cL_law 691 = .ok (.iload 21, 2) := by decide +kernel
theorem dL_law_693 : decode cL_law 693 = .ok (.iconst 1, 1) := by decide +kernel
theorem dL_law_694 : decode cL_law 694 = .ok (.if_icmp .ne 41, 3) := by decide +kernel
theorem dL_law_697 : decode cL_law 697 = .ok (.aload_n 1, 1) := by decide +kernel
theorem dL_law_698 : decode cL_law 698 = .ok (.iconst 0, 1) := by decide +kernel
theorem dL_law_699 : decode cL_law 699 = .ok (.iconst 0, 1) := by decide +kernel
theorem dL_law_700 : decode cL_law 700 = .ok (.invokevirtual 139, 3) := by decide +kernel
theorem dL_law_703 : decode cL_law 703 = .ok (.iload 13, 2) := by decide +kernel
theorem dL_law_705 : decode cL_law 705 = .ok (.if_icmp .ne 28, 3) := by decide +kernel
theorem dL_law_708 : decode cL_law 708 = .ok (.aload_n 1, 1) := by decide +kernel
theorem dL_law_709 : decode cL_law 709 = .ok (.iconst 0, 1) := by decide +kernel
theorem dL_law_710 : decode cL_law 710 = .ok (.iconst 1, 1) := by decide +kernel
theorem dL_law_711 : decode cL_law 711 = .ok (.invokevirtual 139, 3) := by decide +kernel
theorem dL_law_714 : decode cL_law 714 = .ok (.iload 20, 2) := by decide +kernel
theorem dL_law_716 : decode cL_law 716 = .ok (.if_icmp .ne 17, 3) := by decide +kernel
theorem dL_law_719 : decode cL_law 719 = .ok (.aload_n 1, 1) := by decide +kernel
theorem dL_law_720 : decode cL_law 720 = .ok (.iconst 0, 1) := by decide +kernel
theorem dL_law_721 : decode cL_law 721 = .ok (.iconst 2, 1) := by decide +kernel
theorem dL_law_722 : decode cL_law 722 = .ok (.invokevirtual 139, 3) := by decide +kernel
theorem dL_law_725 : decode cL_law 725 = .ok (.aload_n 1, 1) := by decide +kernel
theorem dL_law_726 : decode cL_law 726 = .ok (.iconst 5, 1) := by decide +kernel
theorem dL_law_727 : decode cL_law 727 = .ok (.invokevirtual 116, 3) := by decide +kernel
theorem dL_law_730 : decode cL_law 730 = .ok (.if_icmp .eq 5, 3) := by decide +kernel
theorem dL_law_733 : decode cL_law 733 = .ok (.iconst 0, 1) := by decide +kernel
theorem dL_law_734 : decode cL_law 734 = .ok (.ireturn, 1) := by decide +kernel
theorem dL_law_735 : decode cL_law 735 = .ok (.iconst 0, 1) := by decide +kernel
theorem dL_law_736 : decode cL_law 736 = .ok (.istore 23, 2) := by decide +kernel
theorem dL_law_738 : decode cL_law 738 = .ok (.iload 23, 2) := by decide +kernel
theorem dL_law_740 : decode cL_law 740 = .ok (.iload 4, 2) := by decide +kernel
theorem dL_law_742 : decode cL_law 742 = .ok (.if_icmp .ge 37, 3) := by decide +kernel
theorem dL_law_745 : decode cL_law 745 = .ok (.iload 21, 2) := by decide +kernel
theorem dL_law_747 : decode cL_law 747 = .ok (.iconst 1, 1) := by decide +kernel
theorem dL_law_748 : decode cL_law 748 = .ok (.if_icmp .ne 25, 3) := by decide +kernel
theorem dL_law_751 : decode cL_law 751 = .ok (.aload 19, 2) := by decide +kernel
theorem dL_law_753 : decode cL_law 753 = .ok (.iload 23, 2) := by decide +kernel
theorem dL_law_755 : decode cL_law 755 = .ok (.baload, 1) := by decide +kernel
theorem dL_law_756 : decode cL_law 756 = .ok (.ifCond .eq 17, 3) := by decide +kernel
theorem dL_law_759 : decode cL_law 759 = .ok (.aload_n 1, 1) := by decide +kernel
theorem dL_law_760 : decode cL_law 760 = .ok (.iload 23, 2) := by decide +kernel
theorem dL_law_762 : decode cL_law 762 = .ok (.bipush 6, 2) := by decide +kernel
theorem dL_law_764 : decode cL_law 764 = .ok (.invokevirtual 129, 3) := by decide +kernel
theorem dL_law_767 : decode cL_law 767 = .ok (.iconst 1, 1) := by decide +kernel
theorem dL_law_768 : decode cL_law 768 = .ok (.if_icmp .eq 5, 3) := by decide +kernel
theorem dL_law_771 : decode cL_law 771 = .ok (.iconst 0, 1) := by decide +kernel
theorem dL_law_772 : decode cL_law 772 = .ok (.ireturn, 1) := by decide +kernel
theorem dL_law_773 : decode cL_law 773 = .ok (.iinc 23 1, 3) := by decide +kernel
theorem dL_law_776 : decode cL_law 776 = .ok (.goto (-38), 3) := by decide +kernel
theorem dL_law_779 : decode cL_law 779 = .ok (.iinc 13 1, 3) := by decide +kernel
theorem dL_law_782 : decode cL_law 782 = .ok (.goto (-442), 3) := by decide +kernel
theorem dL_law_785 : decode cL_law 785 = .ok (.iload 9, 2) := by decide +kernel
theorem dL_law_787 : decode cL_law 787 = .ok (.ifCond .le 21, 3) := by decide +kernel
theorem dL_law_790 : decode cL_law 790 = .ok (.iload 9, 2) := by decide +kernel
theorem dL_law_792 : decode cL_law 792 = .ok (.iload 12, 2) := by decide +kernel
theorem dL_law_794 : decode cL_law 794 = .ok (.iconst 1, 1) := by decide +kernel
theorem dL_law_795 : decode cL_law 795 = .ok (.iadd, 1) := by decide +kernel
theorem dL_law_796 : decode cL_law 796 = .ok (.if_icmp .ne 12, 3) := by decide +kernel
theorem dL_law_799 : decode cL_law 799 = .ok (.aload_n 1, 1) := by decide +kernel
theorem dL_law_800 : decode cL_law 800 = .ok (.invokevirtual 123, 3) := by decide +kernel
theorem dL_law_803 : decode cL_law 803 = .ok (.ifCond .eq 5, 3) := by decide +kernel
theorem dL_law_806 : decode cL_law 806 = .ok (.iconst 0, 1) := by decide +kernel
theorem dL_law_807 : decode cL_law 807 = .ok (.ireturn, 1) := by decide +kernel
theorem dL_law_808 : decode cL_law 808 = .ok (.iinc 12 1, 3) := by decide +kernel
theorem dL_law_811 : decode cL_law 811 = .ok (.goto (-481), 3) := by decide +kernel
theorem dL_law_814 : decode cL_law 814 = .ok (.iconst 2, 1) := by decide +kernel
theorem dL_law_815 : decode cL_law 815 = .ok (.istore 12, 2) := by decide +kernel
theorem dL_law_817 : decode cL_law 817 = .ok (.iload 12, 2) := by decide +kernel
theorem dL_law_819 : decode cL_law 819 = .ok (.bipush 7, 2) := by decide +kernel
theorem dL_law_821 : decode cL_law 821 = .ok (.if_icmp .ge 25, 3) := by decide +kernel
theorem dL_law_824 : decode cL_law 824 = .ok (.aload_n 1, 1) := by decide +kernel
theorem dL_law_825 : decode cL_law 825 = .ok (.iload 12, 2) := by decide +kernel
theorem dL_law_827 : decode cL_law 827 = .ok (.invokevirtual 116, 3) := by decide +kernel
theorem dL_law_830 : decode cL_law 830 = .ok (.aload 11, 2) := by decide +kernel
theorem dL_law_832 : decode cL_law 832 = .ok (.iload 12, 2) := by decide +kernel
theorem dL_law_834 : decode cL_law 834 = .ok (.iaload, 1) := by decide +kernel
theorem dL_law_835 : decode cL_law 835 = .ok (.if_icmp .eq 5, 3) := by decide +kernel
theorem dL_law_838 : decode cL_law 838 = .ok (.iconst 0, 1) := by decide +kernel
theorem dL_law_839 : decode cL_law 839 = .ok (.ireturn, 1) := by decide +kernel
theorem dL_law_840 : decode cL_law 840 = .ok (.iinc 12 1, 3) := by decide +kernel
theorem dL_law_843 : decode cL_law 843 = .ok (.goto (-26), 3) := by decide +kernel
theorem dL_law_846 : decode cL_law 846 = .ok (.iinc 5 1, 3) := by decide +kernel
theorem dL_law_849 : decode cL_law 849 = .ok (.goto (-813), 3) := by decide +kernel
theorem dL_law_852 : decode cL_law 852 = .ok (.aload_n 2, 1) := by decide +kernel
theorem dL_law_853 : decode cL_law 853 = .ok (.aload_n 1, 1) := by decide +kernel
theorem dL_law_854 : decode cL_law 854 = .ok (.invokevirtual 142, 3) := by decide +kernel
theorem dL_law_857 : decode cL_law 857 = .ok (.ireturn, 1) := by decide +kernel
abbrev vwCl : List vw_C := [(RX0, TX0, 11), (RX1, TX1, 9), (RX2, TX2, 2), (RX3, TX3, 6), (RX4, TX4, 4)]
